/-! THE CLASS'S NET WHILE A TEXT IS READ INTO IT -/
section TXN
variable {h y z : zH} {b r p n : Nat} {t : Nat → Nat} {T T' : tkT} {lt : Nat → List Nat} {N N' : nT} {i j lo hi : Nat} {S U : Nat → Prop}
def SB (b r a : Nat) : Prop := a = r ∨ (b ≤ a ∧ a < b + 65)
theorem FrA.ff (F : FrF r lo hi h y) : FrA (fun a => a = r) h y := ⟨F.1, F.2.1, fun f a => (F.2.2.1 f a).1, fun a i => (F.2.2.2.1 a i).2.2, fun a n => ⟨fun f => ⟨F.2.2.2.2 f a (Or.inl n), (F.2.2.1 f a).2⟩, fun i => ⟨(F.2.2.2.1 a i).1, (F.2.2.2.1 a i).2.1⟩⟩⟩
theorem FrA.mono (F : FrA S h y) (e : ∀ a, S a → U a) : FrA U h y := FrA.rf.tr F e
theorem FrA.sm {a : Nat} (F : FrA S h y) (n : ¬ S a) : SmA h y a := ⟨F.2.1 a, fun f => ⟨((F.2.2.2.2 a n).1 f).1, ((F.2.2.2.2 a n).1 f).2, F.2.2.1 f a⟩, fun i => ⟨((F.2.2.2.2 a n).2 i).1, ((F.2.2.2.2 a n).2 i).2, F.2.2.2.1 a i⟩⟩
theorem FrA.sI {p i : Nat} {v : Int32} (F : FrA S h y) (hp : S p) : FrA S h (zSI y p i v) := ⟨F.1, F.2.1, F.2.2.1, F.2.2.2.1, fun a n => ⟨(F.2.2.2.2 a n).1, fun j => ⟨by rw [zI_SI, if_neg (fun q => n (by rw [q.1]; exact hp))]; exact ((F.2.2.2.2 a n).2 j).1, ((F.2.2.2.2 a n).2 j).2⟩⟩⟩
/-- where its packets are, and that it may be used again -/
def TWt (h : zH) (b : Nat) (lt : Nat → List Nat) : Prop := ClS h b ∧ lnS h lt ∧ (∃ c : Nat, c ≤ 6 ∧ zi h 161 b = nI c) ∧ (∀ k, k < 13 → lt (lin b k) = []) ∧ (zi h 167 b = nI (totL lt b) ∧ totL lt b ≤ 480)
/-- i links and j flows are on their way -/
def TX (h : zH) (b : Nat) (lt : Nat → List Nat) (N : nT) (i j : Nat) : Prop := ClS h b ∧ lnS h lt ∧ (zi h 161 b = nI (nLk N + i) ∧ zi h 163 b = nI (nFw N + j) ∧ zi h 164 b = nI 0 ∧ zi h 170 b = nI 0 ∧ zi h 171 b = nI 0) ∧ LkC h b N ∧ FlC h b N ∧ (∀ k, k < 13 → lt (lin b k) = []) ∧ (zi h 167 b = nI (totL lt b) ∧ totL lt b ≤ 480) ∧ (zi h 36 (b + 5) = nI 0 ∧ zi h 37 (b + 5) = nI 0)
theorem TX.tw (X : TX h b lt N i j) (h6 : nLk N + i ≤ 6) : TWt h b lt := ⟨X.1, X.2.1, ⟨_, h6, X.2.2.1.1⟩, X.2.2.2.2.2.1, X.2.2.2.2.2.2.1⟩
theorem TWt.cw (X : TWt h b lt) : CW h b lt := by
  obtain ⟨c, s, ⟨k, k6, ek⟩, em, m1, m2⟩ := X
  exact ⟨c, ⟨k, k6, ek, fun a _ h2 => ⟨em a (by omega), em (6 + a) (by omega)⟩⟩, m1, m2⟩
theorem lnS.fa (s : lnS h lt) (F : FrA S h y) (ns : ∀ a, zk h a = 3 ∨ zk h a = 6 → ¬ S a) : lnS y lt :=
  s.tf (by rw [F.1.1]; exact Nat.le_refl _) (fun L hL => ⟨by rw [← F.1.1]; exact hL.1, (F.2.1 L).1.symm.trans hL.2⟩) (fun a _ ka => F.sm (ns a ka))
theorem ClS.fa (c : ClS h b) (F : FrA S h y) : ClS y b := c.fr (by rw [F.1.1]; exact Nat.le_refl _) (fun a _ _ => ⟨(F.2.1 a).1, (F.2.1 a).2, fun f _ _ _ => F.2.2.1 f a, F.2.2.2.1 a⟩)
theorem TWt.fa (X : TWt h b lt) (F : FrA S h y) (hS : ∀ a, S a → a ≠ b ∧ zk h a ≠ 3 ∧ zk h a ≠ 6) : TWt y b lt := by
  obtain ⟨c, s, ⟨k, k6, ek⟩, em, m1, m2⟩ := X
  have nb : ¬ S b := fun q => (hS b q).1 rfl
  exact ⟨c.fa F, s.fa F (fun a ka q => by have := hS a q; omega), ⟨k, k6, by rw [((F.2.2.2.2 b nb).1 161).1]; exact ek⟩, em, by rw [((F.2.2.2.2 b nb).1 167).1]; exact m1, m2⟩
/-- a cell that a link or a flow on its way has, or none of the net's -/
def okS (h : zH) (b : Nat) (N : nT) (a : Nat) : Prop := ((a < b ∨ b + 65 ≤ a) ∧ zk h a ≠ 3 ∧ zk h a ≠ 6) ∨ (b + 11 + 7 * nLk N ≤ a ∧ a < b + 18 + 7 * nLk N ∧ nLk N < 6 ∧ zk h a ≠ 3) ∨ (b + 53 + 2 * nFw N ≤ a ∧ a < b + 55 + 2 * nFw N ∧ nFw N < 6)
theorem okS.k (c : ClS h b) {a : Nat} (q : okS h b N a) : a ≠ b ∧ zk h a ≠ 3 ∧ zk h a ≠ 6 := by
  rcases q with q | ⟨q1, q2, q3, q4⟩ | ⟨q1, q2, q3⟩
  · refine ⟨fun e => ?_, q.2⟩
    omega
  · exact ⟨by omega, q4, c.k6 (by omega) (by omega)⟩
  · have f := c.2.2.2.2.2.2.2.2.2 (nFw N) q3
    have e : a = b + 53 + 2 * nFw N ∨ a = b + 53 + 2 * nFw N + 1 := by omega
    rcases e with e | e
    · exact ⟨by omega, by rw [e, f.2.1]; omega, by rw [e, f.2.1]; omega⟩
    · exact ⟨by omega, by rw [e, f.2.2.2.1]; omega, by rw [e, f.2.2.2.1]; omega⟩
theorem TX.fa (X : TX h b lt N i j) (F : FrA S h y) (hS : ∀ a, S a → okS h b N a) : TX y b lt N i j := by
  obtain ⟨c, s, ⟨n1, n2, n3, n4, n5⟩, lk, fl, em, ⟨m1, m2⟩, e1, e2⟩ := X
  have nb : ¬ S b := fun q => ((hS b q).k c).1 rfl
  have ne : ¬ S (b + 5) := fun q => by
    have := hS _ q
    unfold okS at this
    omega
  have fb := (F.2.2.2.2 b nb).1
  have f5 := (F.2.2.2.2 (b + 5) ne).1
  refine ⟨c.fa F, s.fa F (fun a ka q => by have := (hS a q).k c; omega), ⟨by rw [(fb 161).1]; exact n1, by rw [(fb 163).1]; exact n2, by rw [(fb 164).1]; exact n3, by rw [(fb 170).1]; exact n4, by rw [(fb 171).1]; exact n5⟩, fun a ha a6 => ?_, fun f hf f6 => ?_, em, ⟨by rw [(fb 167).1]; exact m1, m2⟩, by rw [(f5 36).1]; exact e1, by rw [(f5 37).1]; exact e2⟩
  · have la : a < nLk N := by unfold nLk; omega
    have no : ∀ d, d < 7 → ¬ S (b + 11 + 7 * a + d) := fun d hd q => by
      have := hS _ q
      unfold okS at this
      omega
    exact (lk a ha a6).congr (fun k _ => ((F.2.2.2.2 _ (no 0 (by omega))).1 _).1) ((F.2.2.2.2 _ (no 0 (by omega))).1 _).2 (fun k _ _ => ((F.2.2.2.2 _ (no 6 (by omega))).1 _).2) (fun d f d3 d6 => ((F.2.2.2.2 _ (no d (by omega))).2 f).1) (fun _ _ _ => rfl)
  · have la : f < nFw N := by unfold nFw; omega
    have no : ∀ d, d < 2 → ¬ S (b + 53 + 2 * f + d) := fun d hd q => by
      have := hS _ q
      unfold okS at this
      omega
    exact (fl f hf f6).congr (fun k _ => ((F.2.2.2.2 _ (no 0 (by omega))).1 _).1) (fun k => ((F.2.2.2.2 _ (no 1 (by omega))).2 k).1) (fun _ _ _ => rfl) (fun _ _ => rfl)
/-- a count goes up -/
theorem TX.cnt {f : Nat} {v : Int32} (X : TX h b lt N i j) (hf : f = 161 ∨ f = 163) : TX (zSi h f b v) b lt N i j ↔ (f = 161 → v = nI (nLk N + i)) ∧ (f = 163 → v = nI (nFw N + j)) := by
  constructor
  · intro Y
    refine ⟨fun e => ?_, fun e => ?_⟩
    · subst e; have q := Y.2.2.1.1; rw [zi_same] at q; exact q
    · subst e; have q := Y.2.2.1.2.1; rw [zi_same] at q; exact q
  · rintro ⟨v1, v2⟩
    rcases hf with e | e
    · subst e
      rw [v1 rfl, zSi_id X.2.2.1.1]; exact X
    · subst e
      rw [v2 rfl, zSi_id X.2.2.1.2.1]; exact X
theorem TX.up {f : Nat} {v : Int32} {i' j' : Nat} (X : TX h b lt N i j) (hf : f = 161 ∧ v = nI (nLk N + i') ∧ j' = j ∨ f = 163 ∧ v = nI (nFw N + j') ∧ i' = i) : TX (zSi h f b v) b lt N i' j' := by
  obtain ⟨c, s, ⟨n1, n2, n3, n4, n5⟩, lk, fl, em, ⟨m1, m2⟩, e1, e2⟩ := X
  have hb := c.1
  have kb : ∀ a, a ≠ b → ∀ g, zi (zSi h f b v) g a = zi h g a := fun a na g => by rw [zi_Si, if_neg (fun q => na q.2)]
  refine ⟨c.fr (Nat.le_refl _) (fun a _ _ => ⟨rfl, rfl, fun _ _ _ _ => rfl, fun _ => rfl⟩), s.fr rfl (fun _ => rfl) (fun _ _ => rfl) (fun a => by rw [zi_Si, if_neg (by omega)]), ⟨?_, ?_, by rw [zi_Si, if_neg (by omega)]; exact n3, by rw [zi_Si, if_neg (by omega)]; exact n4, by rw [zi_Si, if_neg (by omega)]; exact n5⟩, fun a ha a6 => (lk a ha a6).congr (fun k _ => kb _ (by omega) _) rfl (fun _ _ _ => rfl) (fun _ _ _ _ => rfl) (fun _ _ _ => rfl), fun g hg g6 => (fl g hg g6).congr (fun k _ => kb _ (by omega) _) (fun _ => rfl) (fun _ _ _ => rfl) (fun _ _ => rfl), em, ⟨by rw [zi_Si, if_neg (by omega)]; exact m1, m2⟩, by rw [kb _ (by omega)]; exact e1, by rw [kb _ (by omega)]; exact e2⟩
  · rcases hf with ⟨q1, q2, q3⟩ | ⟨q1, q2, q3⟩
    · rw [q1, zi_same]; exact q2
    · rw [q3, zi_Si, if_neg (by omega)]; exact n1
  · rcases hf with ⟨q1, q2, q3⟩ | ⟨q1, q2, q3⟩
    · rw [q3, zi_Si, if_neg (by omega)]; exact n2
    · rw [q1, zi_same]; exact q2
theorem FlA.pt {f : Nat} (c : FlA h b N f) (e : ∀ k, (248 + 20 * f + 0) ≤ k → k < (248 + 20 * f + 20) → nA N' k = nA N k) (el : ∀ i : Nat, (i : Int) < nA N (248 + 20 * f + 0) → nA N' (8 + 40 * hopN N f i + 1) = nA N (8 + 40 * hopN N f i + 1)) : FlA h b N' f := by
  obtain ⟨c1, c2, c3, c4⟩ := c
  have e0 : nA N' (248 + 20 * f + 0) = nA N (248 + 20 * f + 0) := e _ (by omega) (by omega)
  have ep : ∀ i : Nat, (i : Int) < nA N (248 + 20 * f + 0) → nA N' (248 + 20 * f + (12 + i)) = nA N (248 + 20 * f + (12 + i)) := fun i hi => e _ (by omega) (by omega)
  refine ⟨fun k k11 k4 => by rw [e _ (by omega) (by omega)]; exact c1 k k11 k4, ?_, by rw [e0]; exact c3, fun i hi => ?_⟩
  · rw [backN_pt e0 (fun i hi => ⟨ep i hi, el i hi⟩)]; exact c2
  · rw [e0] at hi
    have q := c4 i hi
    refine ⟨by rw [ep i hi]; exact q.1, ?_⟩
    unfold hopN at *
    rw [ep i hi]
    exact q.2
/-- a link is there -/
theorem TX.link (X : TX h b lt N 1 j) (hz : pz N) (h6 : ¬ nA N 0 = 6) (e0 : nA N' 0 = nA N 0 + 1) (e : ∀ k, k ≠ 0 → ¬ (8 + 40 * nLk N ≤ k ∧ k < 48 + 40 * nLk N) → nA N' k = nA N k) (L : LkA h b N' (nLk N)) : TX h b lt N' 0 j := by
  obtain ⟨l6, lq⟩ := nLk_lt hz h6
  obtain ⟨c, s, ⟨n1, n2, n3, n4, n5⟩, lk, fl, em, m, ev⟩ := X
  have eL : nLk N' = nLk N + 1 := by unfold nLk at *; omega
  have eF : nFw N' = nFw N := by unfold nFw; rw [e 1 (by omega) (by omega)]
  refine ⟨c, s, ⟨by rw [eL]; exact n1, by rw [eF]; exact n2, n3, n4, n5⟩, fun a ha a6 => ?_, fun f hf f6 => ?_, em, m, ev⟩
  · by_cases q : a = nLk N
    · rw [q]; exact L
    · exact (lk a (by omega) a6).congr (fun _ _ => rfl) rfl (fun _ _ _ => rfl) (fun _ _ _ _ => rfl) (fun k h1 h2 => e k (by omega) (by omega))
  · rw [e 1 (by omega) (by omega)] at hf
    refine (fl f hf f6).pt (fun k h1 h2 => e k (by omega) (by omega)) (fun i hi => e _ (by omega) ?_)
    have z := (hz.2.2.2.2.2.2.1 f hf).2.1 i hi
    have : hopN N f i < nLk N := by unfold hopN; omega
    omega
/-- a flow is there -/
theorem TX.flow (X : TX h b lt N i 1) (hz : pz N) (h6 : ¬ nA N 1 = 6) (e1 : nA N' 1 = nA N 1 + 1) (e : ∀ k, k ≠ 1 → ¬ (248 + 20 * nFw N ≤ k ∧ k < 268 + 20 * nFw N) → nA N' k = nA N k) (L : FlA h b N' (nFw N)) : TX h b lt N' i 0 := by
  obtain ⟨l6, lq⟩ := nFw_lt hz h6
  obtain ⟨c, s, ⟨n1, n2, n3, n4, n5⟩, lk, fl, em, m, ev⟩ := X
  have eF : nFw N' = nFw N + 1 := by unfold nFw at *; omega
  have eL : nLk N' = nLk N := by unfold nLk; rw [e 0 (by omega) (by omega)]
  refine ⟨c, s, ⟨by rw [eL]; exact n1, by rw [eF]; exact n2, n3, n4, n5⟩, fun a ha a6 => ?_, fun f hf f6 => ?_, em, m, ev⟩
  · rw [e 0 (by omega) (by omega)] at ha
    exact (lk a ha a6).congr (fun _ _ => rfl) rfl (fun _ _ _ => rfl) (fun _ _ _ _ => rfl) (fun k h1 h2 => e k (by omega) (by omega))
  · by_cases q : f = nFw N
    · rw [q]; exact L
    · exact (fl f (by omega) f6).pt (fun k h1 h2 => e k (by omega) (by omega)) (fun i hi => e _ (by omega) (by have z := (fl f (by omega) f6).2.2.2 i hi; omega))
/-- all read: a net -/
theorem TX.cx {π : Nat → Nat} (X : TX h b lt N 0 0) (hz : pz N) : CX h b π lt N [] 0 := by
  obtain ⟨c, s, ⟨n1, n2, n3, n4, n5⟩, lk, fl, em, ⟨m1, m2⟩, e1, e2⟩ := X
  obtain ⟨l1, l2, l3, l4⟩ := hz.ls
  have p1 := hz.1
  have p2 := hz.2.1
  have p3 := hz.2.2.1
  have ex : ∀ x, nA N (368 + 8 * x + 0) = 0 := fun x => p3 _ (by omega)
  have nl : ∀ x, ¬ liv N x := fun x q => by have := q.2; rw [ex x] at this; omega
  have nv : nLv N = 0 := by
    unfold nLv
    rw [List.countP_eq_zero]
    intro x _
    rw [ex x]
    decide
  refine ⟨c, s, ⟨?_, ?_, ?_, ?_, ?_⟩, lk, fl, ⟨fun x q => absurd q (nl x), fun x y q => absurd q (nl x), fun x q => absurd q (nl x), fun a a6 => ?_, ?_, fun x q => (by cases q), ?_, ?_, fun x _ => by rw [ex x]; omega⟩, ?_, ?_⟩
  · rw [n1, ← jI_nat, show ((nLk N + 0 : Nat) : Int) = nA N 0 by unfold nLk; omega]
  · rw [n2, ← jI_nat, show ((nFw N + 0 : Nat) : Int) = nA N 1 by unfold nFw; omega]
  · rw [n3, p3 2 (by omega)]; rfl
  · rw [n4, p3 6 (by omega)]; rfl
  · rw [n5, p3 7 (by omega)]; rfl
  · have q1 := em a (by omega)
    have q2 := em (6 + a) (by omega)
    rw [lin_row a6] at q1
    rw [lin_wire a6] at q2
    rw [(l1 a).1, (l1 a).2]
    exact ⟨q1, q2, fun x q => (by cases q), fun x q => (by cases q)⟩
  · rw [l2]
    exact ⟨em 12 (by omega), fun x q => (by cases q)⟩
  · rw [nv, Nat.zero_add, ← totL_all em]; exact m1
  · rw [nv, Nat.zero_add, ← totL_all em]; exact m2
  · rw [l3]
    exact ⟨0, by omega, e1, e2, fun i e q => (by cases q)⟩
  · rw [l4]
    exact ⟨rfl, fun i q z => (by cases z)⟩
theorem TX.net (X : TX h b lt N 0 0) (hz : pz N) : NetC h b lt N := ⟨id, 0, X.cx hz, hz.it, by rw [hz.2.2.1 2 (by omega)]; rfl⟩
/-- the reader at work: its net, its text, its token, no fault yet -/
def RdC (h : zH) (b r p n : Nat) (t : Nat → Nat) (lt : Nat → List Nat) (N : nT) (T : tkT) (i j : Nat) : Prop := TX h b lt N i j ∧ TxC h r p n t ∧ TkC h r T ∧ tkOk n T ∧ zr h 262 r = some b ∧ (zi h 264 r = nI 0 ∧ zi h 265 r = -1) ∧ (r < b ∨ b + 65 ≤ r) ∧ (p < b ∨ b + 65 ≤ p)
def PeC (h : zH) (r : Nat) (e : Int × Int) : Prop := zi h 264 r = jI e.1 ∧ zi h 265 r = jI e.2
def OC (b r p n : Nat) (t : Nat → Nat) (lt : Nat → List Nat) (h : zH) (q : rR) : Option Value → zH → Prop := fun u h1 => match q with
  | .inl e => u = some (.int (bI false)) ∧ PeC h1 r e ∧ TWt h1 b lt ∧ FrA (SB b r) h h1
  | .inr (T, N) => u = some (.int (bI true)) ∧ RdC h1 b r p n t lt N T 0 0 ∧ FrA (SB b r) h h1
theorem RdC.rk (R : RdC h b r p n t lt N T i j) : okS h b N r := Or.inl ⟨R.2.2.2.2.2.2.1, by rw [R.2.1.1.1]; omega, by rw [R.2.1.1.1]; omega⟩
theorem RdC.tk (R : RdC h b r p n t lt N T i j) (k : TkC y r T') (ok : tkOk n T') (F : FrF r 258 261 h y) : RdC y b r p n t lt N T' i j :=
  ⟨R.1.fa (FrA.ff F) (fun a e => by rw [e]; exact R.rk), R.2.1.frF F (by omega), k, ok, by rw [(F.2.2.1 _ _).1]; exact R.2.2.2.2.1, ⟨by rw [F.2.2.2.2 _ _ (by omega)]; exact R.2.2.2.2.2.1.1, by rw [F.2.2.2.2 _ _ (by omega)]; exact R.2.2.2.2.2.1.2⟩, R.2.2.2.2.2.2⟩
/-- cells of the net that is on its way -/
theorem RdC.fa (R : RdC h b r p n t lt N T i j) (F : FrA S h y) (hS : ∀ a, S a → okS h b N a ∧ b ≤ a ∧ a < b + 65) : RdC y b r p n t lt N T i j := by
  obtain ⟨X, x, k, ok, g, ⟨f1, f2⟩, d1, d2⟩ := R
  have nr : ¬ S r := fun q => by have := (hS r q).2; omega
  have np : ¬ S p := fun q => by have := (hS p q).2; omega
  have fr := (F.2.2.2.2 r nr).1
  exact ⟨X.fa F (fun a q => (hS a q).1), ⟨⟨by rw [(F.2.1 _).1]; exact x.1.1, by rw [F.2.2.1]; exact x.1.2.1, by rw [(F.2.1 _).1]; exact x.1.2.2.1, by rw [(F.2.1 _).2]; exact x.1.2.2.2⟩, by rw [(fr _).1]; exact x.2.1, x.2.2.1, fun i hi => by rw [((F.2.2.2.2 p np).2 i).1]; exact x.2.2.2 i hi⟩, ⟨by rw [(fr _).1]; exact k.1, by rw [(fr _).1]; exact k.2.1, by rw [(fr _).1]; exact k.2.2.1, fun q => by rw [(fr _).1]; exact k.2.2.2 q⟩, ok, by rw [F.2.2.1]; exact g, ⟨by rw [(fr _).1]; exact f1, by rw [(fr _).1]; exact f2⟩, d1, d2⟩
theorem RdC.tx {N2 : nT} {i2 j2 : Nat} (R : RdC h b r p n t lt N T i j) (X : TX h b lt N2 i2 j2) : RdC h b r p n t lt N2 T i2 j2 := ⟨X, R.2⟩
theorem RdC.tw (R : RdC h b r p n t lt N T i j) (h6 : nLk N + i ≤ 6) (F : FrF r 258 265 h y) : TWt y b lt := (R.1.tw h6).fa (FrA.ff F) (fun a e => by rw [e]; exact R.rk.k R.1.1)
theorem RdC.cnt {f : Nat} {v : Int32} {i' j' : Nat} (R : RdC h b r p n t lt N T i j) (hf : f = 161 ∧ v = nI (nLk N + i') ∧ j' = j ∨ f = 163 ∧ v = nI (nFw N + j') ∧ i' = i) : RdC (zSi h f b v) b r p n t lt N T i' j' := by
  obtain ⟨X, x, k, ok, g, ⟨f1, f2⟩, d1, d2⟩ := R
  have hr : r ≠ b := by omega
  have fr : ∀ q, zi (zSi h f b v) q r = zi h q r := fun q => by rw [zi_Si, if_neg (fun e => hr e.2)]
  exact ⟨X.up hf, ⟨x.1, by rw [fr]; exact x.2.1, x.2.2.1, x.2.2.2⟩, ⟨by rw [fr]; exact k.1, by rw [fr]; exact k.2.1, by rw [fr]; exact k.2.2.1, fun q => by rw [fr]; exact k.2.2.2 q⟩, ok, g, ⟨by rw [fr]; exact f1, by rw [fr]; exact f2⟩, d1, d2⟩
theorem SB.ff (F : FrF r lo hi h y) : FrA (SB b r) h y := (FrA.ff F).mono (fun a e => Or.inl e)
end TXN
