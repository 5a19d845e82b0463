/-! THE CLASS: a net at b, its packets where π says -/
section CX
/-- what never changes: which object stands where -/
def ClS (h : zH) (b : Nat) : Prop :=
  (b + 65 ≤ zx h ∧ zk h b = 5) ∧
  (zr h 160 b = some (b + 1) ∧ zk h (b + 1) = 25 ∧ zn h (b + 1) = 6) ∧
  (zr h 162 b = some (b + 2) ∧ zk h (b + 2) = 24 ∧ zn h (b + 2) = 6) ∧
  (zr h 165 b = some (b + 3) ∧ zk h (b + 3) = 3) ∧ (zr h 166 b = some (b + 4) ∧ zk h (b + 4) = 3) ∧
  (zr h 168 b = some (b + 5) ∧ zk h (b + 5) = 1) ∧
  (∀ j, j < 4 → zr h (32 + j) (b + 5) = some (b + 6 + j) ∧ zk h (b + 6 + j) = 21 ∧ zn h (b + 6 + j) = 24) ∧
  (zr h 169 b = some (b + 10) ∧ zk h (b + 10) = 21 ∧ zn h (b + 10) = 120) ∧
  (∀ i, i < 6 → zR h (b + 1) i = some (b + 11 + 7 * i) ∧ zk h (b + 11 + 7 * i) = 4 ∧ (zr h 132 (b + 11 + 7 * i) = some (b + 11 + 7 * i + 1) ∧ zk h (b + 11 + 7 * i + 1) = 3) ∧ (zr h 133 (b + 11 + 7 * i) = some (b + 11 + 7 * i + 2) ∧ zk h (b + 11 + 7 * i + 2) = 3) ∧ (∀ j, j < 3 → zr h (137 + j) (b + 11 + 7 * i) = some (b + 11 + 7 * i + 3 + j) ∧ zk h (b + 11 + 7 * i + 3 + j) = 21 ∧ zn h (b + 11 + 7 * i + 3 + j) = 6) ∧ (zr h 140 (b + 11 + 7 * i) = some (b + 11 + 7 * i + 6) ∧ zk h (b + 11 + 7 * i + 6) = 7)) ∧
  (∀ i, i < 6 → zR h (b + 2) i = some (b + 53 + 2 * i) ∧ zk h (b + 53 + 2 * i) = 2 ∧ zr h 64 (b + 53 + 2 * i) = some (b + 53 + 2 * i + 1) ∧ zk h (b + 53 + 2 * i + 1) = 21 ∧ zn h (b + 53 + 2 * i + 1) = 4)
theorem ClS.fr {h h' : zH} {b : Nat} (s : ClS h b) (hx : zx h ≤ zx h') (e : ∀ a, b ≤ a → a < b + 65 → zk h' a = zk h a ∧ zn h' a = zn h a ∧ (∀ f, f ≠ 96 → f ≠ 97 → f ≠ 201 → zr h' f a = zr h f a) ∧ ∀ i, zR h' a i = zR h a i) : ClS h' b := by
  obtain ⟨s1, s2, s3, s4, s5, s6, s7, s8, s9, s10⟩ := s
  have k : ∀ a, b ≤ a → a < b + 65 → zk h' a = zk h a := fun a h1 h2 => (e a h1 h2).1
  have n : ∀ a, b ≤ a → a < b + 65 → zn h' a = zn h a := fun a h1 h2 => (e a h1 h2).2.1
  have r : ∀ f a, f ≠ 96 → f ≠ 97 → f ≠ 201 → b ≤ a → a < b + 65 → zr h' f a = zr h f a := fun f a q1 q2 q3 h1 h2 => (e a h1 h2).2.2.1 f q1 q2 q3
  have R : ∀ a i, b ≤ a → a < b + 65 → zR h' a i = zR h a i := fun a i h1 h2 => (e a h1 h2).2.2.2 i
  refine ⟨⟨by omega, by rw [k _ (by omega) (by omega)]; exact s1.2⟩, ?_, ?_, ?_, ?_, ?_, fun j hj => ?_, ?_, fun i hi => ?_, fun i hi => ?_⟩
  · rw [r _ _ (by omega) (by omega) (by omega) (by omega) (by omega), k _ (by omega) (by omega), n _ (by omega) (by omega)]; exact s2
  · rw [r _ _ (by omega) (by omega) (by omega) (by omega) (by omega), k _ (by omega) (by omega), n _ (by omega) (by omega)]; exact s3
  · rw [r _ _ (by omega) (by omega) (by omega) (by omega) (by omega), k _ (by omega) (by omega)]; exact s4
  · rw [r _ _ (by omega) (by omega) (by omega) (by omega) (by omega), k _ (by omega) (by omega)]; exact s5
  · rw [r _ _ (by omega) (by omega) (by omega) (by omega) (by omega), k _ (by omega) (by omega)]; exact s6
  · rw [r _ _ (by omega) (by omega) (by omega) (by omega) (by omega), k _ (by omega) (by omega), n _ (by omega) (by omega)]; exact s7 j hj
  · rw [r _ _ (by omega) (by omega) (by omega) (by omega) (by omega), k _ (by omega) (by omega), n _ (by omega) (by omega)]; exact s8
  · obtain ⟨t1, t2, t3, t4, t5, t6⟩ := s9 i hi
    refine ⟨?_, ?_, ?_, ?_, fun j hj => ?_, ?_⟩
    · rw [R _ _ (by omega) (by omega)]; exact t1
    · rw [k _ (by omega) (by omega)]; exact t2
    · rw [r _ _ (by omega) (by omega) (by omega) (by omega) (by omega), k _ (by omega) (by omega)]; exact t3
    · rw [r _ _ (by omega) (by omega) (by omega) (by omega) (by omega), k _ (by omega) (by omega)]; exact t4
    · rw [r _ _ (by omega) (by omega) (by omega) (by omega) (by omega), k _ (by omega) (by omega), n _ (by omega) (by omega)]; exact t5 j hj
    · rw [r _ _ (by omega) (by omega) (by omega) (by omega) (by omega), k _ (by omega) (by omega)]; exact t6
  · obtain ⟨t1, t2, t3, t4, t5⟩ := s10 i hi
    refine ⟨?_, ?_, ?_, ?_, ?_⟩
    · rw [R _ _ (by omega) (by omega)]; exact t1
    · rw [k _ (by omega) (by omega)]; exact t2
    · rw [r _ _ (by omega) (by omega) (by omega) (by omega) (by omega)]; exact t3
    · rw [k _ (by omega) (by omega)]; exact t4
    · rw [n _ (by omega) (by omega)]; exact t5
def NtC (h : zH) (b : Nat) (N : nT) : Prop := zi h 161 b = jI (nA N 0) ∧ zi h 163 b = jI (nA N 1) ∧ zi h 164 b = jI (nA N 2) ∧ zi h 170 b = jI (nA N 6) ∧ zi h 171 b = jI (nA N 7)
def lkF (j : Nat) : Nat := if j < 8 then 128 + j else 127 + j
def lkJ (j : Nat) : Prop := j < 4 ∨ j = 6 ∨ j = 7 ∨ (14 ≤ j ∧ j < 18)
def LkA (h : zH) (b : Nat) (N : nT) (a : Nat) : Prop :=
  (∀ j, lkJ j → zi h (lkF j) (b + 11 + 7 * a) = jI (nA N (8 + 40 * a + j))) ∧ zl h 136 (b + 11 + 7 * a) = jL (nA N (8 + 40 * a + 18)) ∧
  (∀ j, 8 ≤ j → j < 14 → zl h (216 + j) (b + 11 + 7 * a + 6) = jL (nA N (8 + 40 * a + j))) ∧
  ∀ f, f < 6 → zI h (b + 11 + 7 * a + 3) f = jI (nA N (8 + 40 * a + (20 + f))) ∧ (nA N (8 + 40 * a + (20 + f)) = 0 → zI h (b + 11 + 7 * a + 4) f = 0 ∧ zI h (b + 11 + 7 * a + 5) f = 0) ∧ (¬ nA N (8 + 40 * a + (20 + f)) = 0 → zI h (b + 11 + 7 * a + 4) f = jI (nA N (8 + 40 * a + (26 + f))) ∧ zI h (b + 11 + 7 * a + 5) f = jI (nA N (8 + 40 * a + (32 + f))))
def LkC (h : zH) (b : Nat) (N : nT) : Prop := ∀ a : Nat, (a : Int) < nA N 0 → a < 6 → LkA h b N a
def FlA (h : zH) (b : Nat) (N : nT) (f : Nat) : Prop :=
  (∀ j, j < 11 → j ≠ 4 → zi h (65 + j) (b + 53 + 2 * f) = jI (nA N (248 + 20 * f + j))) ∧ zi h 69 (b + 53 + 2 * f) = jI (backN N f) ∧
  nA N (248 + 20 * f + 0) ≤ 4 ∧ ∀ i : Nat, (i : Int) < nA N (248 + 20 * f + 0) → zI h (b + 53 + 2 * f + 1) i = jI (nA N (248 + 20 * f + (12 + i))) ∧ hopN N f i < 6
def FlC (h : zH) (b : Nat) (N : nT) : Prop := ∀ f : Nat, (f : Int) < nA N 1 → f < 6 → FlA h b N f
def PkC (h : zH) (N : nT) (p x : Nat) : Prop := zi h 192 p = jI (nA N (368 + 8 * x + 0) - 1) ∧ zi h 193 p = jI (nA N (368 + 8 * x + 1)) ∧ zi h 195 p = jI (nA N (368 + 8 * x + 3)) ∧ zi h 196 p = jI (nA N (368 + 8 * x + 4)) ∧ zl h 197 p = jL (partN N x) ∧ zi h 198 p = jI (nA N (368 + 8 * x + 5)) ∧ zi h 200 p = jI (nA N (368 + 8 * x + 7))
def liv (N : nT) (x : Nat) : Prop := x < 480 ∧ 0 < nA N (368 + 8 * x + 0)
def nLv (N : nT) : Nat := (List.range 480).countP fun x => decide (0 < nA N (368 + 8 * x + 0))
def PkA (h : zH) (b : Nat) (N : nT) (π : Nat → Nat) (ls : Nat → List Nat) (X : List Nat) : Prop :=
  (∀ x, liv N x → PkC h N (π x) x ∧ π x < zx h ∧ zk h (π x) = 6) ∧
  (∀ x y, liv N x → liv N y → π x = π y → x = y) ∧
  (∀ x, liv N x → ¬ π x ∈ ls (b + 4)) ∧
  (∀ a, a < 6 → ls (b + 11 + 7 * a + 1) = (nR N a).map π ∧ ls (b + 11 + 7 * a + 2) = (nW N a).map π ∧ (∀ x, x ∈ nR N a → zi h 194 (π x) = jI (nA N (368 + 8 * x + 2)) ∧ nA N (368 + 8 * x + 7) = 0) ∧ ∀ x, x ∈ nW N a → zi h 194 (π x) = jI (nA N (368 + 8 * x + 2) + 1) ∧ zi h 199 (π x) = jI (nA N (368 + 8 * x + 6)) ∧ nA N (368 + 8 * x + 7) = 0) ∧
  (ls (b + 3) = (nK N).map π ∧ ∀ x, x ∈ nK N → zi h 199 (π x) = jI (nA N (368 + 8 * x + 6)) ∧ 0 ≤ nA N (368 + 8 * x + 6) ∧ nA N (368 + 8 * x + 6) < 100000) ∧
  (∀ x, x ∈ X → outL h ls (π x)) ∧
  zi h 167 b = nI (nLv N + (ls (b + 4)).length) ∧ nLv N + (ls (b + 4)).length ≤ 480 ∧ ∀ x, x < 480 → 0 ≤ nA N (368 + 8 * x + 0)
def EvC (h : zH) (b : Nat) (E : List (Int × Int × Int × Int)) : Prop := ∃ s : Nat, s < 24 ∧ zi h 36 (b + 5) = nI s ∧ zi h 37 (b + 5) = nI E.length ∧ ∀ (i : Nat) (e : Int × Int × Int × Int), E.reverse[i]? = some e → zI h (b + 6) ((s + 23 - i) % 24) = jI e.1 ∧ zI h (b + 7) ((s + 23 - i) % 24) = jI e.2.1 ∧ zI h (b + 8) ((s + 23 - i) % 24) = jI e.2.2.1 ∧ zI h (b + 9) ((s + 23 - i) % 24) = jI e.2.2.2
def PaC (h : zH) (b : Nat) (P : List (Nat → Int)) (n : Int) (t : Nat) : Prop := P.length = min 20 t ∧ ∀ (i : Nat) (q : Nat → Int), P.reverse[i]? = some q → ∀ f : Nat, (f : Int) < n → zI h (b + 10) ((t - i) % 20 * 6 + f) = jI (q f)
def CX (h : zH) (b : Nat) (π : Nat → Nat) (ls : Nat → List Nat) (N : nT) (X : List Nat) (t : Nat) : Prop := ClS h b ∧ lnS h ls ∧ NtC h b N ∧ LkC h b N ∧ FlC h b N ∧ PkA h b N π ls X ∧ EvC h b (nE N) ∧ PaC h b (nP N) (nA N 1) t
/-- the cells made are counted in the net's own field -/
def mdB (b : Nat) (h h' : zH) : Prop := (zx h' : Int) + (zi h 167 b).toInt ≤ (zx h : Int) + (zi h' 167 b).toInt
theorem mdB.rf {b : Nat} {h : zH} : mdB b h h := Int.le_refl _
theorem mdB.eq {b : Nat} {h h' : zH} (e : zx h' = zx h) (e2 : zi h' 167 b = zi h 167 b) : mdB b h h' := by unfold mdB; rw [e, e2]; exact Int.le_refl _
theorem mdB.tr {b : Nat} {h h1 h2 : zH} (p : mdB b h h1) (q : mdB b h1 h2) : mdB b h h2 := by unfold mdB at *; omega
theorem mdB.up {b n : Nat} {h h1 : zH} (ex : zx h1 = zx h + 1) (e : zi h 167 b = nI n) (e1 : zi h1 167 b = nI (n + 1)) (hn : n < 480) : mdB b h h1 := by
  unfold mdB
  rw [ex, e, e1, nI_toInt (by omega), nI_toInt (by omega)]
  omega
/-- what a step of the net at b leaves as it is -/
def FrN (b : Nat) (ls : Nat → List Nat) (h h' : zH) : Prop :=
  (zx h ≤ zx h' ∧ zt h' + 10 * zx h = zt h + 10 * zx h' ∧ mdB b h h') ∧ (∀ a, a < zx h → zk h' a = zk h a ∧ zn h' a = zn h a) ∧
  ∀ a, a < zx h → (a < b ∨ b + 65 ≤ a) → (zk h a ≠ 6 ∨ ∃ L, isL h L ∧ (L < b ∨ b + 65 ≤ L) ∧ a ∈ ls L) → (∀ f, zi h' f a = zi h f a ∧ zl h' f a = zl h f a ∧ zr h' f a = zr h f a) ∧ ∀ i, zI h' a i = zI h a i ∧ zL h' a i = zL h a i ∧ zR h' a i = zR h a i
def CSt (b : Nat) (ls : Nat → List Nat) (h : zH) (ls' : Nat → List Nat) (h' : zH) : Prop := FrN b ls h h' ∧ ∀ L, (L < b ∨ b + 65 ≤ L) → ls' L = ls L
theorem CSt.rf {b : Nat} {ls : Nat → List Nat} {h : zH} : CSt b ls h ls h := ⟨⟨⟨Nat.le_refl _, rfl, mdB.rf⟩, fun _ _ => ⟨rfl, rfl⟩, fun _ _ _ _ => ⟨fun _ => ⟨rfl, rfl, rfl⟩, fun _ => ⟨rfl, rfl, rfl⟩⟩⟩, fun _ _ => rfl⟩
theorem CSt.tr {b : Nat} {ls ls1 ls2 : Nat → List Nat} {h h1 h2 : zH} (x : CSt b ls h ls1 h1) (y : CSt b ls1 h1 ls2 h2) : CSt b ls h ls2 h2 := by
  obtain ⟨⟨⟨x1, x2, x6⟩, x3, x4⟩, x5⟩ := x
  obtain ⟨⟨⟨y1, y2, y6⟩, y3, y4⟩, y5⟩ := y
  refine ⟨⟨⟨by omega, by omega, x6.tr y6⟩, fun a ha => ⟨(y3 a (by omega)).1.trans (x3 a ha).1, (y3 a (by omega)).2.trans (x3 a ha).2⟩, fun a ha ho hc => ?_⟩, fun L hL => (y5 L hL).trans (x5 L hL)⟩
  have q := x4 a ha ho hc
  have hc' : zk h1 a ≠ 6 ∨ ∃ L, isL h1 L ∧ (L < b ∨ b + 65 ≤ L) ∧ a ∈ ls1 L := by
    rcases hc with c | ⟨L, h3, h4, h5⟩
    · exact Or.inl (by rw [(x3 a ha).1]; exact c)
    · exact Or.inr ⟨L, ⟨by have := h3.1; omega, by rw [(x3 L h3.1).1]; exact h3.2⟩, h4, by rw [x5 L h4]; exact h5⟩
  have p := y4 a (by omega) ho hc'
  exact ⟨fun f => ⟨((p.1 f).1).trans (q.1 f).1, ((p.1 f).2.1).trans (q.1 f).2.1, ((p.1 f).2.2).trans (q.1 f).2.2⟩, fun i => ⟨((p.2 i).1).trans (q.2 i).1, ((p.2 i).2.1).trans (q.2 i).2.1, ((p.2 i).2.2).trans (q.2 i).2.2⟩⟩
end CX
