/-! THE MODEL'S ROW OF LONGS AGAINST THE NET -/
def jI (z : Int) : Int32 := Int32.ofInt z
def jL (z : Int) : Int64 := Int64.ofInt z
theorem jL_nat (n : Nat) : jL (n : Int) = lN n := Int64.ofInt_eq_ofNat
theorem jI_nat (n : Nat) : jI (n : Int) = nI n := Int32.ofInt_eq_ofNat
theorem jL_add (a b : Int) : jL a + jL b = jL (a + b) := (Int64.ofInt_add a b).symm
theorem jL_sub (a b : Int) : jL a - jL b = jL (a - b) := (Int64.ofInt_sub a b).symm
theorem jL_mul (a b : Int) : jL a * jL b = jL (a * b) := (Int64.ofInt_mul a b).symm
theorem jL_neg (a : Int) : -jL a = jL (-a) := (Int64.ofInt_neg a).symm
theorem jI_add (a b : Int) : jI a + jI b = jI (a + b) := (Int32.ofInt_add a b).symm
theorem jI_sub (a b : Int) : jI a - jI b = jI (a - b) := (Int32.ofInt_sub a b).symm
theorem jI_mul (a b : Int) : jI a * jI b = jI (a * b) := (Int32.ofInt_mul a b).symm
theorem jI_neg (a : Int) : -jI a = jI (-a) := (Int32.ofInt_neg a).symm
theorem jL_toInt {z : Int} (h1 : -2 ^ 63 ≤ z) (h2 : z < 2 ^ 63) : (jL z).toInt = z := Int64.toInt_ofInt_of_le h1 h2
theorem jI_toInt {z : Int} (h1 : -2 ^ 31 ≤ z) (h2 : z < 2 ^ 31) : (jI z).toInt = z := Int32.toInt_ofInt_of_le h1 h2
theorem jL_i (z : Int) : (jL z).toInt32 = jI z := Int64.toInt32_ofInt
theorem jI_l {z : Int} (h1 : -2 ^ 31 ≤ z) (h2 : z < 2 ^ 31) : (jI z).toInt64 = jL z := Int64.toInt_inj.mp (by rw [Int32.toInt_toInt64, jI_toInt h1 h2, jL_toInt (by omega) (by omega)])
theorem jL_eq {a b : Int} (ha : -2 ^ 63 ≤ a ∧ a < 2 ^ 63) (hb : -2 ^ 63 ≤ b ∧ b < 2 ^ 63) : jL a = jL b ↔ a = b := by
  rw [← Int64.toInt_inj, jL_toInt ha.1 ha.2, jL_toInt hb.1 hb.2]
theorem jL_lt {a b : Int} (ha : -2 ^ 63 ≤ a ∧ a < 2 ^ 63) (hb : -2 ^ 63 ≤ b ∧ b < 2 ^ 63) : jL a < jL b ↔ a < b := by
  rw [Int64.lt_iff_toInt_lt, jL_toInt ha.1 ha.2, jL_toInt hb.1 hb.2]
theorem jL_le {a b : Int} (ha : -2 ^ 63 ≤ a ∧ a < 2 ^ 63) (hb : -2 ^ 63 ≤ b ∧ b < 2 ^ 63) : jL a ≤ jL b ↔ a ≤ b := by
  rw [Int64.le_iff_toInt_le, jL_toInt ha.1 ha.2, jL_toInt hb.1 hb.2]
theorem jI_eq {a b : Int} (ha : -2 ^ 31 ≤ a ∧ a < 2 ^ 31) (hb : -2 ^ 31 ≤ b ∧ b < 2 ^ 31) : jI a = jI b ↔ a = b := by
  rw [← Int32.toInt_inj, jI_toInt ha.1 ha.2, jI_toInt hb.1 hb.2]
theorem jI_lt {a b : Int} (ha : -2 ^ 31 ≤ a ∧ a < 2 ^ 31) (hb : -2 ^ 31 ≤ b ∧ b < 2 ^ 31) : jI a < jI b ↔ a < b := by
  rw [Int32.lt_iff_toInt_lt, jI_toInt ha.1 ha.2, jI_toInt hb.1 hb.2]
theorem jI_le {a b : Int} (ha : -2 ^ 31 ≤ a ∧ a < 2 ^ 31) (hb : -2 ^ 31 ≤ b ∧ b < 2 ^ 31) : jI a ≤ jI b ↔ a ≤ b := by
  rw [Int32.le_iff_toInt_le, jI_toInt ha.1 ha.2, jI_toInt hb.1 hb.2]
/-- lcmp of two longs against 0 -/
theorem jL_cmp (a b : Int) (ha : -2 ^ 63 ≤ a ∧ a < 2 ^ 63) (hb : -2 ^ 63 ≤ b ∧ b < 2 ^ 63) : lg_cmp (jL a) (jL b) = (if b < a then 1 else if a = b then 0 else -1) := by
  unfold lg_cmp
  simp only [gt_iff_lt, jL_lt hb ha, jL_eq ha hb]
/-- where the numbers of the net don't stand in the row itself: counts of lists, losses, blind -/
def nSp (k : Nat) : Prop := (3 ≤ k ∧ k < 8) ∨ (8 ≤ k ∧ k < 248 ∧ ((k - 8) % 40 = 4 ∨ (k - 8) % 40 = 5))
def updL (g : Nat → Int64) (k : Nat) (v : Int64) : Nat → Int64 := fun j => if j = k then v else g j
def MoR (g : Nat → Int64) (N : nT) : Prop :=
  (∀ k, k < 4208 → ¬ nSp k → g k = jL (nA N k)) ∧ (g 3 = lN (nE N).length ∧ g 4 = lN (nP N).length ∧ g 5 = lN (nK N).length) ∧
  (∀ l, l < 6 → g ((8 + 40 * l + 4)) = lN (nR N l).length ∧ g ((8 + 40 * l + 5)) = lN (nW N l).length) ∧
  (∀ l, l < 6 → ∀ (i p : Nat), (nR N l)[i]? = some p → g (4208 + 60 * l + i) = lN p) ∧
  (∀ l, l < 6 → ∀ (i p : Nat), (nW N l)[i]? = some p → g (4568 + 90 * l + i) = lN p) ∧
  (∀ (i p : Nat), (nK N)[i]? = some p → g (5108 + i) = lN p) ∧
  (∀ (i : Nat) (e : Int × Int × Int × Int), (nE N)[i]? = some e → g (5588 + 4 * i) = jL e.1 ∧ g (5588 + 4 * i + 1) = jL e.2.1 ∧ g (5588 + 4 * i + 2) = jL e.2.2.1 ∧ g (5588 + 4 * i + 3) = jL e.2.2.2) ∧
  (∀ (i : Nat) (q : Nat → Int), (nP N)[i]? = some q → ∀ f, f < 6 → g (5684 + 6 * i + f) = jL (q f))
/-- the lists fit where they are kept -/
def nFit (N : nT) : Prop := (∀ l, l < 6 → (nR N l).length ≤ 60 ∧ (nW N l).length ≤ 90) ∧ (nK N).length ≤ 480 ∧ (nE N).length ≤ 24 ∧ (nP N).length ≤ 20
theorem MoR.setA {g : Nat → Int64} {N : nT} (r : MoR g N) {k : Nat} {z : Int} (hk : k < 4208) (hs : ¬ nSp k) : MoR (updL g k (jL z)) (uA N k z) := by
  obtain ⟨r1, r2, r3, r4, r5, r6, r7, r8⟩ := r
  have hs' := hs
  unfold nSp at hs'
  have ne : ∀ j, (nSp j ∨ 4208 ≤ j) → updL g k (jL z) j = g j := by
    intro j hj
    unfold updL
    rw [if_neg]
    rintro rfl
    rcases hj with hj | hj
    · exact hs hj
    · omega
  refine ⟨fun j hj hsj => ?_, ⟨?_, ?_, ?_⟩, fun l hl => ⟨?_, ?_⟩, fun l hl i p hp => ?_, fun l hl i p hp => ?_, fun i p hp => ?_, fun i e he => ?_, fun i q hq f hf => ?_⟩
  · rw [nA_uA]
    unfold updL
    split
    · rfl
    · exact r1 j hj hsj
  · rw [ne 3 (Or.inl (by unfold nSp; omega))]; exact r2.1
  · rw [ne 4 (Or.inl (by unfold nSp; omega))]; exact r2.2.1
  · rw [ne 5 (Or.inl (by unfold nSp; omega))]; exact r2.2.2
  · rw [ne _ (Or.inl (by unfold nSp; omega))]; exact (r3 l hl).1
  · rw [ne _ (Or.inl (by unfold nSp; omega))]; exact (r3 l hl).2
  · rw [ne _ (Or.inr (by omega))]; exact r4 l hl i p hp
  · rw [ne _ (Or.inr (by omega))]; exact r5 l hl i p hp
  · rw [ne _ (Or.inr (by omega))]; exact r6 i p hp
  · rw [ne _ (Or.inr (by omega)), ne _ (Or.inr (by omega)), ne _ (Or.inr (by omega)), ne _ (Or.inr (by omega))]; exact r7 i e he
  · rw [ne _ (Or.inr (by omega))]; exact r8 i q hq f hf
/-- a write behind every list changes nothing -/
theorem MoR.off {g g' : Nat → Int64} {N : nT} (r : MoR g N) (h1 : ∀ k, k < 4208 → g' k = g k) (h2 : ∀ l, l < 6 → ∀ i, i < (nR N l).length → g' (4208 + 60 * l + i) = g (4208 + 60 * l + i)) (h3 : ∀ l, l < 6 → ∀ i, i < (nW N l).length → g' (4568 + 90 * l + i) = g (4568 + 90 * l + i)) (h4 : ∀ i, i < (nK N).length → g' (5108 + i) = g (5108 + i)) (h5 : ∀ i, i < 4 * (nE N).length → g' (5588 + i) = g (5588 + i)) (h6 : ∀ i, i < 6 * (nP N).length → g' (5684 + i) = g (5684 + i)) : MoR g' N := by
  obtain ⟨r1, r2, r3, r4, r5, r6, r7, r8⟩ := r
  have lt : ∀ {α : Type} {L : List α} {i : Nat} {x : α}, L[i]? = some x → i < L.length := fun h => (List.getElem?_eq_some_iff.mp h).1
  refine ⟨fun j hj hsj => (h1 j hj).trans (r1 j hj hsj), ⟨(h1 3 (by omega)).trans r2.1, (h1 4 (by omega)).trans r2.2.1, (h1 5 (by omega)).trans r2.2.2⟩, fun l hl => ⟨(h1 _ (by omega)).trans (r3 l hl).1, (h1 _ (by omega)).trans (r3 l hl).2⟩, fun l hl i p hp => (h2 l hl i (lt hp)).trans (r4 l hl i p hp), fun l hl i p hp => (h3 l hl i (lt hp)).trans (r5 l hl i p hp), fun i p hp => (h4 i (lt hp)).trans (r6 i p hp), fun i e he => ?_, fun i q hq f hf => ?_⟩
  · have hi := lt he
    obtain ⟨e1, e2, e3, e4⟩ := r7 i e he
    exact ⟨(h5 (4 * i) (by omega)).trans e1, (h5 (4 * i + 1) (by omega)).trans e2, (h5 (4 * i + 2) (by omega)).trans e3, (h5 (4 * i + 3) (by omega)).trans e4⟩
  · have hi := lt hq
    have := h6 (6 * i + f) (by omega)
    rw [← Nat.add_assoc] at this
    exact this.trans (r8 i q hq f hf)
