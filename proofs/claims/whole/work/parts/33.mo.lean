def bI (b : Bool) : Int32 := if b then 1 else 0
theorem bI_nar (b : Bool) : narrow .boolean (.int (bI b)) = .int (bI b) := by cases b <;> decide
section ZG6F
variable {l : Launch} {w : zW} {M : zMe} {h : zH} {Q : Option Value → zH → Prop}
/-- the same for a method of a class that has natives in its bytecode's place, where this one has none -/
theorem zM.ofF {av : List Value} (hy : plainFor M.1 = true) (hl : (lg_sl av).length ≤ M.2.2.1) (k : zG l w M 0 (lv_args 0 av) [] h Q) : zM l w M av h Q := by
  obtain ⟨v, h', ⟨k1, k2, k3⟩, k4⟩ := k
  refine ⟨v, h', ⟨k1, k2, va_MetF (cc := M.2.1) (maxL := M.2.2.1) (ret := M.2.2.2.1) hy rfl ?_⟩, k4⟩
  intro p e s m args below meth c s₁ B hml hv
  obtain ⟨rfl, hK, hR⟩ := hv
  have hts := atoms_spec (ws := .code M.1 M.2.1 M.2.2.1 M.2.2.2.1 :: lw_all) B.pre
  have C : zCtx w M p s m av.toArray meth c := ⟨B.exec, B.bytes, hml, B.returns, B.notSynchronized, findClass_of_methodNamed B.named, (name_of_methodNamed B.named B.method).1, fun x hx => hts x (List.mem_cons_of_mem _ hx), hK⟩
  rw [lg_entry_eq]
  have k5 := k3 p e s m av.toArray below meth c (zx h) (zt h) s.heap _ [] C ⟨hR, fun _ _ => rfl, fun _ hq => absurd hq List.not_mem_nil, lv_entry av hl, Nat.le_refl _, Nat.le_refl _⟩
  simp only [Nat.sub_self] at k5
  exact k5
end ZG6F
section ZG7
variable {l : Launch} {w : zW} {M : zMe} {pc : Nat} {lv : List (Nat × Value)} {rest : List Value} {h : zH} {Q : Option Value → zH → Prop}
theorem g_ldc2J {idx : Nat} {v : Int64} {z : Int} (hd : decode M.2.1 pc = .ok (.ldc2_w idx, 3)) (hc : Cond.constantLong M.1.cls idx v ∈ lw_all) (hv : v = jL z) (kk : zG l w M (pc + 3) lv (.long (jL z) :: rest) h Q) : zG l w M pc lv rest h Q := by
  subst hv
  exact g_ldc2 hd hc kk
theorem g_bif_eq {b : Bool} {off : Int} {tgt : Nat} (hd : decode M.2.1 pc = .ok (.ifCond .eq off, 3)) (ht : (pc : Int) + off = (tgt : Int)) (kt : b = false → zG l w M tgt lv rest h Q) (kf : b = true → zG l w M (pc + 3) lv rest h Q) : zG l w M pc lv (.int (bI b) :: rest) h Q :=
  g_if_eq hd ht (fun e => kt (by cases b; rfl; exact absurd e (by decide))) (fun e => kf (by cases b; exact absurd rfl e; rfl))
theorem g_bif_ne {b : Bool} {off : Int} {tgt : Nat} (hd : decode M.2.1 pc = .ok (.ifCond .ne off, 3)) (ht : (pc : Int) + off = (tgt : Int)) (kt : b = true → zG l w M tgt lv rest h Q) (kf : b = false → zG l w M (pc + 3) lv rest h Q) : zG l w M pc lv (.int (bI b) :: rest) h Q :=
  g_if_ne hd ht (fun e => kt (by cases b; exact absurd rfl e; rfl)) (fun e => kf (by cases b; rfl; exact absurd e (by decide)))
theorem lg_lt0 {a b : Int} (ha : -2 ^ 63 ≤ a ∧ a < 2 ^ 63) (hb : -2 ^ 63 ≤ b ∧ b < 2 ^ 63) : (lg_cmp (jL a) (jL b) < 0 ↔ a < b) ∧ (lg_cmp (jL a) (jL b) = 0 ↔ a = b) ∧ (0 < lg_cmp (jL a) (jL b) ↔ b < a) := by
  rw [jL_cmp a b ha hb]
  by_cases h1 : b < a
  · rw [if_pos h1]
    exact ⟨⟨fun q => absurd q (by decide), fun q => by omega⟩, ⟨fun q => absurd q (by decide), fun q => by omega⟩, ⟨fun _ => h1, fun _ => by decide⟩⟩
  · rw [if_neg h1]
    by_cases h2 : a = b
    · rw [if_pos h2]
      exact ⟨⟨fun q => absurd q (by decide), fun q => by omega⟩, ⟨fun _ => h2, fun _ => rfl⟩, ⟨fun q => absurd q (by decide), fun q => by omega⟩⟩
    · rw [if_neg h2]
      exact ⟨⟨fun _ => by omega, fun _ => by decide⟩, ⟨fun q => absurd q (by decide), fun q => by omega⟩, ⟨fun q => absurd q (by decide), fun q => by omega⟩⟩
theorem g_lif_eq {a b : Int} {off : Int} {tgt pc1 : Nat} (hd : decode M.2.1 pc = .ok (.lcmp, 1)) (h1 : pc + 1 = pc1) (hd2 : decode M.2.1 pc1 = .ok (.ifCond .eq off, 3)) (ht : (pc1 : Int) + off = (tgt : Int)) (ha : -2 ^ 63 ≤ a ∧ a < 2 ^ 63) (hb : -2 ^ 63 ≤ b ∧ b < 2 ^ 63) (kt : a = b → zG l w M tgt lv rest h Q) (kf : ¬ a = b → zG l w M (pc1 + 3) lv rest h Q) : zG l w M pc lv (.long (jL b) :: .long (jL a) :: rest) h Q := by
  subst h1
  exact g_lcmp hd (g_if_eq hd2 ht (fun e => kt ((lg_lt0 ha hb).2.1.mp e)) (fun e => kf (fun q => e ((lg_lt0 ha hb).2.1.mpr q))))
theorem g_jcmp_eq {a b : Int} {off : Int} {tgt : Nat} (hd : decode M.2.1 pc = .ok (.if_icmp .eq off, 3)) (ht : (pc : Int) + off = (tgt : Int)) (ha : -2 ^ 31 ≤ a ∧ a < 2 ^ 31) (hb : -2 ^ 31 ≤ b ∧ b < 2 ^ 31) (kt : a = b → zG l w M tgt lv rest h Q) (kf : ¬ a = b → zG l w M (pc + 3) lv rest h Q) : zG l w M pc lv (.int (jI b) :: .int (jI a) :: rest) h Q :=
  g_icmp_eq hd ht (fun e => kt ((jI_eq ha hb).mp e)) (fun e => kf (fun q => e ((jI_eq ha hb).mpr q)))
theorem g_ncmp_eq {a b : Nat} {off : Int} {tgt : Nat} (hd : decode M.2.1 pc = .ok (.if_icmp .eq off, 3)) (ht : (pc : Int) + off = (tgt : Int)) (ha : a < 2 ^ 31) (hb : b < 2 ^ 31) (kt : a = b → zG l w M tgt lv rest h Q) (kf : ¬ a = b → zG l w M (pc + 3) lv rest h Q) : zG l w M pc lv (.int (nI b) :: .int (nI a) :: rest) h Q :=
  g_icmp_eq hd ht (fun e => kt ((nI_eq ha hb).mp e)) (fun e => kf (fun q => e ((nI_eq ha hb).mpr q)))
theorem g_lif_ne {a b : Int} {off : Int} {tgt pc1 : Nat} (hd : decode M.2.1 pc = .ok (.lcmp, 1)) (h1 : pc + 1 = pc1) (hd2 : decode M.2.1 pc1 = .ok (.ifCond .ne off, 3)) (ht : (pc1 : Int) + off = (tgt : Int)) (ha : -2 ^ 63 ≤ a ∧ a < 2 ^ 63) (hb : -2 ^ 63 ≤ b ∧ b < 2 ^ 63) (kt : ¬ a = b → zG l w M tgt lv rest h Q) (kf : a = b → zG l w M (pc1 + 3) lv rest h Q) : zG l w M pc lv (.long (jL b) :: .long (jL a) :: rest) h Q := by
  subst h1
  exact g_lcmp hd (g_if_ne hd2 ht (fun e => kt (fun q => e ((lg_lt0 ha hb).2.1.mpr q))) (fun e => kf ((lg_lt0 ha hb).2.1.mp e)))
theorem g_jcmp_ne {a b : Int} {off : Int} {tgt : Nat} (hd : decode M.2.1 pc = .ok (.if_icmp .ne off, 3)) (ht : (pc : Int) + off = (tgt : Int)) (ha : -2 ^ 31 ≤ a ∧ a < 2 ^ 31) (hb : -2 ^ 31 ≤ b ∧ b < 2 ^ 31) (kt : ¬ a = b → zG l w M tgt lv rest h Q) (kf : a = b → zG l w M (pc + 3) lv rest h Q) : zG l w M pc lv (.int (jI b) :: .int (jI a) :: rest) h Q :=
  g_icmp_ne hd ht (fun e => kt (fun q => e ((jI_eq ha hb).mpr q))) (fun e => kf ((jI_eq ha hb).mp e))
theorem g_ncmp_ne {a b : Nat} {off : Int} {tgt : Nat} (hd : decode M.2.1 pc = .ok (.if_icmp .ne off, 3)) (ht : (pc : Int) + off = (tgt : Int)) (ha : a < 2 ^ 31) (hb : b < 2 ^ 31) (kt : ¬ a = b → zG l w M tgt lv rest h Q) (kf : a = b → zG l w M (pc + 3) lv rest h Q) : zG l w M pc lv (.int (nI b) :: .int (nI a) :: rest) h Q :=
  g_icmp_ne hd ht (fun e => kt (fun q => e ((nI_eq ha hb).mpr q))) (fun e => kf ((nI_eq ha hb).mp e))
theorem g_lif_lt {a b : Int} {off : Int} {tgt pc1 : Nat} (hd : decode M.2.1 pc = .ok (.lcmp, 1)) (h1 : pc + 1 = pc1) (hd2 : decode M.2.1 pc1 = .ok (.ifCond .lt off, 3)) (ht : (pc1 : Int) + off = (tgt : Int)) (ha : -2 ^ 63 ≤ a ∧ a < 2 ^ 63) (hb : -2 ^ 63 ≤ b ∧ b < 2 ^ 63) (kt : a < b → zG l w M tgt lv rest h Q) (kf : ¬ a < b → zG l w M (pc1 + 3) lv rest h Q) : zG l w M pc lv (.long (jL b) :: .long (jL a) :: rest) h Q := by
  subst h1
  exact g_lcmp hd (g_if_lt hd2 ht (fun e => kt ((lg_lt0 ha hb).1.mp e)) (fun e => kf (fun q => e ((lg_lt0 ha hb).1.mpr q))))
theorem g_jcmp_lt {a b : Int} {off : Int} {tgt : Nat} (hd : decode M.2.1 pc = .ok (.if_icmp .lt off, 3)) (ht : (pc : Int) + off = (tgt : Int)) (ha : -2 ^ 31 ≤ a ∧ a < 2 ^ 31) (hb : -2 ^ 31 ≤ b ∧ b < 2 ^ 31) (kt : a < b → zG l w M tgt lv rest h Q) (kf : ¬ a < b → zG l w M (pc + 3) lv rest h Q) : zG l w M pc lv (.int (jI b) :: .int (jI a) :: rest) h Q :=
  g_icmp_lt hd ht (fun e => kt ((jI_lt ha hb).mp e)) (fun e => kf (fun q => e ((jI_lt ha hb).mpr q)))
theorem g_ncmp_lt {a b : Nat} {off : Int} {tgt : Nat} (hd : decode M.2.1 pc = .ok (.if_icmp .lt off, 3)) (ht : (pc : Int) + off = (tgt : Int)) (ha : a < 2 ^ 31) (hb : b < 2 ^ 31) (kt : a < b → zG l w M tgt lv rest h Q) (kf : ¬ a < b → zG l w M (pc + 3) lv rest h Q) : zG l w M pc lv (.int (nI b) :: .int (nI a) :: rest) h Q :=
  g_icmp_lt hd ht (fun e => kt ((nI_ltI ha hb).mp e)) (fun e => kf (fun q => e ((nI_ltI ha hb).mpr q)))
theorem g_lif_ge {a b : Int} {off : Int} {tgt pc1 : Nat} (hd : decode M.2.1 pc = .ok (.lcmp, 1)) (h1 : pc + 1 = pc1) (hd2 : decode M.2.1 pc1 = .ok (.ifCond .ge off, 3)) (ht : (pc1 : Int) + off = (tgt : Int)) (ha : -2 ^ 63 ≤ a ∧ a < 2 ^ 63) (hb : -2 ^ 63 ≤ b ∧ b < 2 ^ 63) (kt : b ≤ a → zG l w M tgt lv rest h Q) (kf : ¬ b ≤ a → zG l w M (pc1 + 3) lv rest h Q) : zG l w M pc lv (.long (jL b) :: .long (jL a) :: rest) h Q := by
  subst h1
  exact g_lcmp hd (g_if_ge hd2 ht (fun e => kt (Int.not_lt.mp fun q => absurd ((lg_lt0 ha hb).1.mpr q) (Int32.not_lt.mpr e))) (fun e => kf (fun q => e (Int32.not_lt.mp fun z => absurd ((lg_lt0 ha hb).1.mp z) (Int.not_lt.mpr q)))))
theorem g_jcmp_ge {a b : Int} {off : Int} {tgt : Nat} (hd : decode M.2.1 pc = .ok (.if_icmp .ge off, 3)) (ht : (pc : Int) + off = (tgt : Int)) (ha : -2 ^ 31 ≤ a ∧ a < 2 ^ 31) (hb : -2 ^ 31 ≤ b ∧ b < 2 ^ 31) (kt : b ≤ a → zG l w M tgt lv rest h Q) (kf : ¬ b ≤ a → zG l w M (pc + 3) lv rest h Q) : zG l w M pc lv (.int (jI b) :: .int (jI a) :: rest) h Q :=
  g_icmp_ge hd ht (fun e => kt ((jI_le hb ha).mp e)) (fun e => kf (fun q => e ((jI_le hb ha).mpr q)))
theorem g_ncmp_ge {a b : Nat} {off : Int} {tgt : Nat} (hd : decode M.2.1 pc = .ok (.if_icmp .ge off, 3)) (ht : (pc : Int) + off = (tgt : Int)) (ha : a < 2 ^ 31) (hb : b < 2 ^ 31) (kt : b ≤ a → zG l w M tgt lv rest h Q) (kf : ¬ b ≤ a → zG l w M (pc + 3) lv rest h Q) : zG l w M pc lv (.int (nI b) :: .int (nI a) :: rest) h Q :=
  g_icmp_ge hd ht (fun e => kt ((nI_leI hb ha).mp e)) (fun e => kf (fun q => e ((nI_leI hb ha).mpr q)))
theorem g_lif_gt {a b : Int} {off : Int} {tgt pc1 : Nat} (hd : decode M.2.1 pc = .ok (.lcmp, 1)) (h1 : pc + 1 = pc1) (hd2 : decode M.2.1 pc1 = .ok (.ifCond .gt off, 3)) (ht : (pc1 : Int) + off = (tgt : Int)) (ha : -2 ^ 63 ≤ a ∧ a < 2 ^ 63) (hb : -2 ^ 63 ≤ b ∧ b < 2 ^ 63) (kt : b < a → zG l w M tgt lv rest h Q) (kf : ¬ b < a → zG l w M (pc1 + 3) lv rest h Q) : zG l w M pc lv (.long (jL b) :: .long (jL a) :: rest) h Q := by
  subst h1
  exact g_lcmp hd (g_if_gt hd2 ht (fun e => kt ((lg_lt0 ha hb).2.2.mp e)) (fun e => kf (fun q => e ((lg_lt0 ha hb).2.2.mpr q))))
theorem g_jcmp_gt {a b : Int} {off : Int} {tgt : Nat} (hd : decode M.2.1 pc = .ok (.if_icmp .gt off, 3)) (ht : (pc : Int) + off = (tgt : Int)) (ha : -2 ^ 31 ≤ a ∧ a < 2 ^ 31) (hb : -2 ^ 31 ≤ b ∧ b < 2 ^ 31) (kt : b < a → zG l w M tgt lv rest h Q) (kf : ¬ b < a → zG l w M (pc + 3) lv rest h Q) : zG l w M pc lv (.int (jI b) :: .int (jI a) :: rest) h Q :=
  g_icmp_gt hd ht (fun e => kt ((jI_lt hb ha).mp e)) (fun e => kf (fun q => e ((jI_lt hb ha).mpr q)))
theorem g_ncmp_gt {a b : Nat} {off : Int} {tgt : Nat} (hd : decode M.2.1 pc = .ok (.if_icmp .gt off, 3)) (ht : (pc : Int) + off = (tgt : Int)) (ha : a < 2 ^ 31) (hb : b < 2 ^ 31) (kt : b < a → zG l w M tgt lv rest h Q) (kf : ¬ b < a → zG l w M (pc + 3) lv rest h Q) : zG l w M pc lv (.int (nI b) :: .int (nI a) :: rest) h Q :=
  g_icmp_gt hd ht (fun e => kt ((nI_ltI hb ha).mp e)) (fun e => kf (fun q => e ((nI_ltI hb ha).mpr q)))
theorem g_lif_le {a b : Int} {off : Int} {tgt pc1 : Nat} (hd : decode M.2.1 pc = .ok (.lcmp, 1)) (h1 : pc + 1 = pc1) (hd2 : decode M.2.1 pc1 = .ok (.ifCond .le off, 3)) (ht : (pc1 : Int) + off = (tgt : Int)) (ha : -2 ^ 63 ≤ a ∧ a < 2 ^ 63) (hb : -2 ^ 63 ≤ b ∧ b < 2 ^ 63) (kt : a ≤ b → zG l w M tgt lv rest h Q) (kf : ¬ a ≤ b → zG l w M (pc1 + 3) lv rest h Q) : zG l w M pc lv (.long (jL b) :: .long (jL a) :: rest) h Q := by
  subst h1
  exact g_lcmp hd (g_if_le hd2 ht (fun e => kt (Int.not_lt.mp fun q => absurd ((lg_lt0 ha hb).2.2.mpr q) (Int32.not_lt.mpr e))) (fun e => kf (fun q => e (Int32.not_lt.mp fun z => absurd ((lg_lt0 ha hb).2.2.mp z) (Int.not_lt.mpr q)))))
theorem g_jcmp_le {a b : Int} {off : Int} {tgt : Nat} (hd : decode M.2.1 pc = .ok (.if_icmp .le off, 3)) (ht : (pc : Int) + off = (tgt : Int)) (ha : -2 ^ 31 ≤ a ∧ a < 2 ^ 31) (hb : -2 ^ 31 ≤ b ∧ b < 2 ^ 31) (kt : a ≤ b → zG l w M tgt lv rest h Q) (kf : ¬ a ≤ b → zG l w M (pc + 3) lv rest h Q) : zG l w M pc lv (.int (jI b) :: .int (jI a) :: rest) h Q :=
  g_icmp_le hd ht (fun e => kt ((jI_le ha hb).mp e)) (fun e => kf (fun q => e ((jI_le ha hb).mpr q)))
theorem g_ncmp_le {a b : Nat} {off : Int} {tgt : Nat} (hd : decode M.2.1 pc = .ok (.if_icmp .le off, 3)) (ht : (pc : Int) + off = (tgt : Int)) (ha : a < 2 ^ 31) (hb : b < 2 ^ 31) (kt : a ≤ b → zG l w M tgt lv rest h Q) (kf : ¬ a ≤ b → zG l w M (pc + 3) lv rest h Q) : zG l w M pc lv (.int (nI b) :: .int (nI a) :: rest) h Q :=
  g_icmp_le hd ht (fun e => kt ((nI_leI ha hb).mp e)) (fun e => kf (fun q => e ((nI_leI ha hb).mpr q)))
end ZG7
theorem nsL {a k : Nat} (ha : a < 6) (hk : k < 40) (h4 : k ≠ 4) (h5 : k ≠ 5) : ¬ nSp (8 + 40 * a + k) := by unfold nSp; omega
theorem nsF {a k : Nat} : ¬ nSp (248 + 20 * a + k) := by unfold nSp; omega
theorem nsP {a k : Nat} : ¬ nSp (368 + 8 * a + k) := by unfold nSp; omega
/-- what a piece of the model's tick leaves as it was: all but the row's first part, and the count of losses -/
def FrM (m : Nat) (h h' : zH) : Prop := zx h' = zx h ∧ zt h' = zt h ∧ (∀ a, zk h' a = zk h a) ∧ (∀ a, zn h' a = zn h a) ∧ (∀ f a, zr h' f a = zr h f a) ∧ (∀ a i, zR h' a i = zR h a i) ∧ (∀ f a, zl h' f a = zl h f a) ∧ (∀ f a, (f ≠ 324 ∨ a ≠ m) → zi h' f a = zi h f a) ∧ (∀ a i, zI h' a i = zI h a i) ∧ (∀ a i, a ≠ m + 1 → zL h' a i = zL h a i) ∧ (∀ i, 5804 ≤ i → zL h' (m + 1) i = zL h (m + 1) i)
theorem FrM.rf {m : Nat} {h : zH} : FrM m h h := ⟨rfl, rfl, fun _ => rfl, fun _ => rfl, fun _ _ => rfl, fun _ _ => rfl, fun _ _ => rfl, fun _ _ _ => rfl, fun _ _ => rfl, fun _ _ _ => rfl, fun _ _ => rfl⟩
theorem FrM.tr {m : Nat} {h h1 h2 : zH} (a : FrM m h h1) (b : FrM m h1 h2) : FrM m h h2 := by
  obtain ⟨a1, a2, a3, a4, a5, a6, a7, a8, a9, a10, a11⟩ := a
  obtain ⟨b1, b2, b3, b4, b5, b6, b7, b8, b9, b10, b11⟩ := b
  exact ⟨b1.trans a1, b2.trans a2, fun x => (b3 x).trans (a3 x), fun x => (b4 x).trans (a4 x), fun x y => (b5 x y).trans (a5 x y), fun x y => (b6 x y).trans (a6 x y), fun x y => (b7 x y).trans (a7 x y), fun x y z => (b8 x y z).trans (a8 x y z), fun x y => (b9 x y).trans (a9 x y), fun x y z => (b10 x y z).trans (a10 x y z), fun x z => (b11 x z).trans (a11 x z)⟩
theorem FrM.sL {m : Nat} {h : zH} {k : Nat} {v : Int64} (hk : k < 5804) : FrM m h (zSL h (m + 1) k v) :=
  ⟨rfl, rfl, fun _ => rfl, fun _ => rfl, fun _ _ => rfl, fun _ _ => rfl, fun _ _ => rfl, fun _ _ _ => rfl, fun _ _ => rfl, fun a i ha => by rw [zL_SL, if_neg (fun q => ha q.1)], fun i hi => by rw [zL_SL, if_neg (fun q => by omega)]⟩
theorem Mo.fr {m : Nat} {h h' : zH} (a : Mo h m) (f : FrM m h h') : Mo h' m := by
  obtain ⟨-, -, f3, f4, f5, -⟩ := f
  unfold Mo at *
  simp only [f3, f4, f5]
  exact a
/-- losses: the model's own count is the net's and what stands at 3 -/
def MoN (h : zH) (m : Nat) (N : nT) : Prop := Mo h m ∧ MoR (zL h (m + 1)) N ∧ zi h 323 m = jI (nA N 7) ∧ zi h 324 m = jI (nA N 6 + nA N 3)
theorem zL_upd (h : zH) (a k : Nat) (v : Int64) : zL (zSL h a k v) a = updL (zL h a) k v := by
  funext j
  rw [zL_SL]
  unfold updL
  by_cases e : j = k
  · rw [if_pos ⟨rfl, e⟩, if_pos e]
  · rw [if_neg (fun q => e q.2), if_neg e]
theorem MoN.setA {h : zH} {m : Nat} {N : nT} (r : MoN h m N) {k : Nat} {z : Int} (hk : k < 4208) (hs : ¬ nSp k) : MoN (zSL h (m + 1) k (jL z)) m (uA N k z) := by
  refine ⟨r.1.fr (FrM.sL (by omega)), by rw [zL_upd]; exact r.2.1.setA hk hs, ?_⟩
  unfold nSp at hs
  rw [nA_uA, nA_uA, nA_uA, if_neg (by omega), if_neg (by omega), if_neg (by omega)]
  exact r.2.2
section M2
variable {l : Launch} {w : zW} {h : zH} {m : Nat} {N : nT}
theorem c_ofN (r : MoN h m N) {k : Nat} (hk : k < 4208) (hs : ¬ nSp k) : zM l w mX10_of [.ref m, .int (nI k)] h (fun v h1 => v = some (.long (jL (nA N k))) ∧ h1 = h) := by
  have a := c_of (l := l) (w := w) r.1 (k := k) (by omega)
  rw [r.2.1.1 k hk hs] at a
  exact a
theorem c_atN (r : MoN h m N) {k : Nat} (hk : k < 4208) (hs : ¬ nSp k) : zM l w mX10_at [.ref m, .int (nI k)] h (fun v h1 => v = some (.int (jI (nA N k))) ∧ h1 = h) := by
  have a := c_at (l := l) (w := w) r.1 (k := k) (by omega)
  rw [r.2.1.1 k hk hs, jL_i] at a
  exact a
theorem c_ofLinkN (r : MoN h m N) {a k : Nat} (hk : 8 + 40 * a + k < 4208) (hs : ¬ nSp (8 + 40 * a + k)) : zM l w mX10_ofLink [.ref m, .int (nI a), .int (nI k)] h (fun v h1 => v = some (.long (jL (nA N (8 + 40 * a + k)))) ∧ h1 = h) := by
  have q := c_ofLink (l := l) (w := w) r.1 (a := a) (k := k) (by omega)
  rw [r.2.1.1 _ hk hs] at q
  exact q
theorem c_ofFlowN (r : MoN h m N) {a k : Nat} (hk : 248 + 20 * a + k < 4208) : zM l w mX10_ofFlow [.ref m, .int (nI a), .int (nI k)] h (fun v h1 => v = some (.long (jL (nA N (248 + 20 * a + k)))) ∧ h1 = h) := by
  have q := c_ofFlow (l := l) (w := w) r.1 (a := a) (k := k) (by omega)
  rw [r.2.1.1 _ hk nsF] at q
  exact q
theorem c_putsN (r : MoN h m N) {k : Nat} {z : Int} (hk : k < 4208) (hs : ¬ nSp k) : zM l w mX10_puts [.ref m, .int (nI k), .long (jL z)] h (fun v h1 => v = none ∧ MoN h1 m (uA N k z) ∧ FrM m h h1) :=
  (c_puts r.1 (by omega)).mono fun v h1 q => ⟨q.1, q.2 ▸ r.setA hk hs, q.2 ▸ FrM.sL (by omega)⟩
theorem c_addsN (r : MoN h m N) {k : Nat} {z : Int} (hk : k < 4208) (hs : ¬ nSp k) : zM l w mX10_adds [.ref m, .int (nI k), .long (jL z)] h (fun v h1 => v = none ∧ MoN h1 m (uA N k (nA N k + z)) ∧ FrM m h h1) := by
  refine (c_adds r.1 (by omega)).mono fun v h1 q => ?_
  rw [r.2.1.1 k hk hs, jL_add] at q
  exact ⟨q.1, q.2 ▸ r.setA hk hs, q.2 ▸ FrM.sL (by omega)⟩
/-- counts of lists -/
theorem c_ofStood (r : MoN h m N) {a : Nat} (ha : a < 6) : zM l w mX10_ofLink [.ref m, .int (nI a), .int (nI 4)] h (fun v h1 => v = some (.long (lN (nR N a).length)) ∧ h1 = h) := by
  have q := c_ofLink (l := l) (w := w) r.1 (a := a) (k := 4) (by omega)
  rw [(r.2.1.2.2.1 a ha).1] at q
  exact q
theorem c_ofWired (r : MoN h m N) {a : Nat} (ha : a < 6) : zM l w mX10_ofLink [.ref m, .int (nI a), .int (nI 5)] h (fun v h1 => v = some (.long (lN (nW N a).length)) ∧ h1 = h) := by
  have q := c_ofLink (l := l) (w := w) r.1 (a := a) (k := 5) (by omega)
  rw [(r.2.1.2.2.1 a ha).2] at q
  exact q
theorem c_atStood (r : MoN h m N) {a : Nat} (ha : a < 6) : zM l w mX10_at [.ref m, .int (nI (8 + 40 * a + 4))] h (fun v h1 => v = some (.int (nI (nR N a).length)) ∧ h1 = h) := by
  have q := c_at (l := l) (w := w) r.1 (k := 8 + 40 * a + 4) (by omega)
  rw [(r.2.1.2.2.1 a ha).1, lN_i] at q
  exact q
theorem c_atWired (r : MoN h m N) {a : Nat} (ha : a < 6) : zM l w mX10_at [.ref m, .int (nI (8 + 40 * a + 5))] h (fun v h1 => v = some (.int (nI (nW N a).length)) ∧ h1 = h) := by
  have q := c_at (l := l) (w := w) r.1 (k := 8 + 40 * a + 5) (by omega)
  rw [(r.2.1.2.2.1 a ha).2, lN_i] at q
  exact q
theorem c_atBack (r : MoN h m N) : zM l w mX10_at [.ref m, .int (nI 5)] h (fun v h1 => v = some (.int (nI (nK N).length)) ∧ h1 = h) := by
  have q := c_at (l := l) (w := w) r.1 (k := 5) (by omega)
  rw [r.2.1.2.1.2.2, lN_i] at q
  exact q
theorem c_ofBack (r : MoN h m N) : zM l w mX10_of [.ref m, .int (nI 5)] h (fun v h1 => v = some (.long (lN (nK N).length)) ∧ h1 = h) := by
  have q := c_of (l := l) (w := w) r.1 (k := 5) (by omega)
  rw [r.2.1.2.1.2.2] at q
  exact q
theorem c_atLog (r : MoN h m N) : zM l w mX10_at [.ref m, .int (nI 3)] h (fun v h1 => v = some (.int (nI (nE N).length)) ∧ h1 = h) := by
  have q := c_at (l := l) (w := w) r.1 (k := 3) (by omega)
  rw [r.2.1.2.1.1, lN_i] at q
  exact q
theorem c_ofLog (r : MoN h m N) : zM l w mX10_of [.ref m, .int (nI 3)] h (fun v h1 => v = some (.long (lN (nE N).length)) ∧ h1 = h) := by
  have q := c_of (l := l) (w := w) r.1 (k := 3) (by omega)
  rw [r.2.1.2.1.1] at q
  exact q
theorem c_atPm (r : MoN h m N) : zM l w mX10_at [.ref m, .int (nI 4)] h (fun v h1 => v = some (.int (nI (nP N).length)) ∧ h1 = h) := by
  have q := c_at (l := l) (w := w) r.1 (k := 4) (by omega)
  rw [r.2.1.2.1.2.1, lN_i] at q
  exact q
theorem c_ofPm (r : MoN h m N) : zM l w mX10_of [.ref m, .int (nI 4)] h (fun v h1 => v = some (.long (lN (nP N).length)) ∧ h1 = h) := by
  have q := c_of (l := l) (w := w) r.1 (k := 4) (by omega)
  rw [r.2.1.2.1.2.1] at q
  exact q
theorem c_atRow (r : MoN h m N) {a i p : Nat} (ha : a < 6) (hi : 4208 + 60 * a + i < 29020) (hp : (nR N a)[i]? = some p) : zM l w mX10_at [.ref m, .int (nI (4208 + 60 * a + i))] h (fun v h1 => v = some (.int (nI p)) ∧ h1 = h) := by
  have q := c_at (l := l) (w := w) r.1 (k := 4208 + 60 * a + i) hi
  rw [r.2.1.2.2.2.1 a ha i p hp, lN_i] at q
  exact q
theorem c_atWire (r : MoN h m N) {a i p : Nat} (ha : a < 6) (hi : 4568 + 90 * a + i < 29020) (hp : (nW N a)[i]? = some p) : zM l w mX10_at [.ref m, .int (nI (4568 + 90 * a + i))] h (fun v h1 => v = some (.int (nI p)) ∧ h1 = h) := by
  have q := c_at (l := l) (w := w) r.1 (k := 4568 + 90 * a + i) hi
  rw [r.2.1.2.2.2.2.1 a ha i p hp, lN_i] at q
  exact q
theorem c_atK (r : MoN h m N) {i p : Nat} (hi : 5108 + i < 29020) (hp : (nK N)[i]? = some p) : zM l w mX10_at [.ref m, .int (nI (5108 + i))] h (fun v h1 => v = some (.int (nI p)) ∧ h1 = h) := by
  have q := c_at (l := l) (w := w) r.1 (k := 5108 + i) hi
  rw [r.2.1.2.2.2.2.2.1 i p hp, lN_i] at q
  exact q
end M2
