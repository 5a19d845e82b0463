section BST
variable {N : nT} {S : (Nat → Int) × (Nat → Int)} {a i : Nat} {v : Int}
/-- rates and necks: the flow crosses the link; it grows; how many grow there; what is left there -/
def crN (N : nT) (f a : Nat) : Bool := decide ((f : Int) < nA N 1) && inB N f (a : Int)
def grB (N : nT) (S : (Nat → Int) × (Nat → Int)) (f : Nat) : Bool := decide ((f : Int) < nA N 1) && (decide (nA N (248 + 20 * f + 3) = 1) && decide (S.2 f = -1))
def gwN (N : nT) (S : (Nat → Int) × (Nat → Int)) (a : Nat) : Nat → Nat
  | 0 => 0
  | n + 1 => gwN N S a n + (if crN N n a && grB N S n then 1 else 0)
def rsN (N : nT) (S : (Nat → Int) × (Nat → Int)) (a : Nat) : Nat → Int
  | 0 => 1000 * nA N (8 + 40 * a + 0)
  | n + 1 => rsN N S a n - (if crN N n a then S.1 n else 0)
def cnN (N : nT) (S : (Nat → Int) × (Nat → Int)) : Nat → Nat
  | 0 => 0
  | n + 1 => cnN N S n + (if grB N S n then 1 else 0)
def eaN (N : nT) (S : (Nat → Int) × (Nat → Int)) (a : Nat) : Int := rsN N S a 6 / (gwN N S a 6 : Int)
def btN (N : nT) (S : (Nat → Int) × (Nat → Int)) : Nat → Int
  | 0 => -1
  | k + 1 => if 0 < gwN N S k 6 ∧ (btN N S k = -1 ∨ eaN N S k < eaN N S (btN N S k).toNat) then (k : Int) else btN N S k
def stB (N : nT) (S : (Nat → Int) × (Nat → Int)) (a f : Nat) : Bool := grB N S f && crN N f a
def bup (N : nT) (S : (Nat → Int) × (Nat → Int)) (a : Nat) (v : Int) (i : Nat) : (Nat → Int) × (Nat → Int) := (fun f => if decide (f < i) && stB N S a f then v else S.1 f, fun f => if decide (f < i) && stB N S a f then (a : Int) else S.2 f)
def bzN (N : nT) (S : (Nat → Int) × (Nat → Int)) : Int := btN N S (nA N 0).toNat
def bst (N : nT) (S : (Nat → Int) × (Nat → Int)) : (Nat → Int) × (Nat → Int) := if bzN N S = -1 then S else bup N S (bzN N S).toNat (eaN N S (bzN N S).toNat) 6
def bstK (N : nT) (S : (Nat → Int) × (Nat → Int)) : Nat → (Nat → Int) × (Nat → Int)
  | 0 => S
  | k + 1 => bstK N (bst N S) k
def bS0 : (Nat → Int) × (Nat → Int) := (fun _ => 0, fun _ => -1)
def bstN (N : nT) : (Nat → Int) × (Nat → Int) := bstK N bS0 6
theorem crN_out {f : Nat} (h : nA N 1 ≤ (f : Int)) : crN N f a = false := by unfold crN; rw [decide_eq_false (by omega), Bool.false_and]
theorem crN_in {f : Nat} (h : (f : Int) < nA N 1) : crN N f a = inB N f (a : Int) := by unfold crN; rw [decide_eq_true h, Bool.true_and]
theorem grB_out {f : Nat} (h : nA N 1 ≤ (f : Int)) : grB N S f = false := by unfold grB; rw [decide_eq_false (by omega), Bool.false_and]
theorem grB_in {f : Nat} (h : (f : Int) < nA N 1) : grB N S f = (decide (nA N (248 + 20 * f + 3) = 1) && decide (S.2 f = -1)) := by unfold grB; rw [decide_eq_true h, Bool.true_and]
theorem gw_end {n k : Nat} (h : nA N 1 ≤ (n : Int)) : gwN N S a (n + k) = gwN N S a n := by
  induction k with
  | zero => rfl
  | succ k ih =>
    rw [← Nat.add_assoc, gwN, ih, crN_out (by omega)]
    rfl
theorem rs_end {n k : Nat} (h : nA N 1 ≤ (n : Int)) : rsN N S a (n + k) = rsN N S a n := by
  induction k with
  | zero => rfl
  | succ k ih =>
    rw [← Nat.add_assoc, rsN, ih, crN_out (by omega), if_neg (by decide)]
    omega
theorem gw_le : ∀ n, gwN N S a n ≤ n := by
  intro n
  induction n with
  | zero => exact Nat.le_refl _
  | succ n ih => unfold gwN; split <;> omega
theorem gw_cn : ∀ n, gwN N S a n ≤ cnN N S n := by
  intro n
  induction n with
  | zero => exact Nat.le_refl _
  | succ n ih =>
    unfold gwN cnN
    by_cases c : grB N S n = true
    · rw [if_pos c]; split <;> omega
    · rw [if_neg c, if_neg (fun q => c (Bool.and_eq_true_iff.mp q).2)]; omega
theorem bs_in : ∀ k : Nat, btN N S k = -1 ∨ (0 ≤ btN N S k ∧ btN N S k < k ∧ 0 < gwN N S (btN N S k).toNat 6) := by
  intro k
  induction k with
  | zero => exact Or.inl rfl
  | succ k ih =>
    unfold btN
    by_cases c : 0 < gwN N S k 6 ∧ (btN N S k = -1 ∨ eaN N S k < eaN N S (btN N S k).toNat)
    · rw [if_pos c]; exact Or.inr ⟨by omega, by omega, by rw [Int.toNat_natCast]; exact c.1⟩
    · rw [if_neg c]
      rcases ih with q | q
      · exact Or.inl q
      · exact Or.inr ⟨q.1, by omega, q.2.2⟩
theorem bs_min : ∀ k : Nat, (btN N S k = -1 → ∀ j, j < k → gwN N S j 6 = 0) ∧ (¬ btN N S k = -1 → ∀ j, j < k → 0 < gwN N S j 6 → eaN N S (btN N S k).toNat ≤ eaN N S j) := by
  intro k
  induction k with
  | zero => exact ⟨fun _ j hj => absurd hj (by omega), fun _ j hj => absurd hj (by omega)⟩
  | succ k ih =>
    unfold btN
    by_cases c : 0 < gwN N S k 6 ∧ (btN N S k = -1 ∨ eaN N S k < eaN N S (btN N S k).toNat)
    · rw [if_pos c]
      refine ⟨fun q => absurd q (by omega), fun _ j hj hg => ?_⟩
      rw [Int.toNat_natCast]
      by_cases e : j = k
      · rw [e]; exact Int.le_refl _
      · rcases c.2 with d | d
        · have := ih.1 d j (by omega); omega
        · have q : ¬ btN N S k = -1 := fun z => by have := ih.1 z j (by omega); omega
          have := ih.2 q j (by omega) hg
          omega
    · rw [if_neg c]
      refine ⟨fun q j hj => ?_, fun q j hj hg => ?_⟩
      · by_cases e : j = k
        · rw [e]
          by_cases z : 0 < gwN N S k 6
          · exact absurd ⟨z, Or.inl q⟩ c
          · omega
        · exact ih.1 q j (by omega)
      · by_cases e : j = k
        · rw [e] at hg ⊢
          by_cases z : eaN N S k < eaN N S (btN N S k).toNat
          · exact absurd ⟨hg, Or.inr z⟩ c
          · omega
        · exact ih.2 q j (by omega) hg
/-- what always holds of them -/
def bsI (N : nT) (S : (Nat → Int) × (Nat → Int)) : Prop := (∀ a : Nat, (a : Int) < nA N 0 → 0 ≤ rsN N S a 6 ∧ rsN N S a 6 ≤ 9000) ∧ (∀ f, 0 ≤ S.1 f ∧ S.1 f ≤ 9000) ∧ (∀ f, S.2 f = -1 → S.1 f = 0) ∧ ∀ f, -1 ≤ S.2 f ∧ S.2 f < 6
theorem rs_le (h : ∀ f, 0 ≤ S.1 f) : ∀ n, rsN N S a n ≤ 1000 * nA N (8 + 40 * a + 0) := by
  intro n
  induction n with
  | zero => exact Int.le_refl _
  | succ n ih =>
    have := h n
    unfold rsN
    split <;> omega
theorem bsI.zero {X : List Nat} (h : iN X N) : bsI N bS0 := by
  refine ⟨fun a ha => ?_, fun f => ⟨Int.le_refl _, by show (0 : Int) ≤ 9000; decide⟩, fun f _ => rfl, fun f => ⟨Int.le_refl _, by show (-1 : Int) < 6; decide⟩⟩
  have l0 := (h.L a ha).1.1
  have e : ∀ n, rsN N bS0 a n = 1000 * nA N (8 + 40 * a + 0) := by
    intro n
    induction n with
    | zero => rfl
    | succ n ih =>
      unfold rsN
      rw [ih]
      have : bS0.1 n = 0 := rfl
      rw [this]
      split <;> omega
  rw [e]
  omega
theorem ea_bd (h : bsI N S) (ha : (a : Int) < nA N 0) (hg : 0 < gwN N S a 6) : 0 ≤ eaN N S a ∧ eaN N S a ≤ 9000 ∧ eaN N S a * (gwN N S a 6 : Int) ≤ rsN N S a 6 := by
  have q := h.1 a ha
  have h1 : rsN N S a 6 / (gwN N S a 6 : Int) ≤ rsN N S a 6 := Int.ediv_le_self _ q.1
  refine ⟨Int.ediv_nonneg q.1 (by omega), ?_, ?_⟩
  · unfold eaN; omega
  · exact Int.ediv_mul_le _ (by omega)
theorem bup_1 {f : Nat} (h : stB N S a f = true) (hi : f < i) : (bup N S a v i).1 f = v ∧ (bup N S a v i).2 f = (a : Int) := by
  have c : (decide (f < i) && stB N S a f) = true := by rw [h, decide_eq_true hi]; rfl
  exact ⟨if_pos c, if_pos c⟩
theorem bup_0 {f : Nat} (h : ¬ (f < i ∧ stB N S a f = true)) : (bup N S a v i).1 f = S.1 f ∧ (bup N S a v i).2 f = S.2 f := by
  have c : ¬ (decide (f < i) && stB N S a f) = true := fun q => by
    have z := Bool.and_eq_true_iff.mp q
    exact h ⟨of_decide_eq_true z.1, z.2⟩
  exact ⟨if_neg c, if_neg c⟩
theorem st_gr {f : Nat} (h : stB N S a f = true) : grB N S f = true ∧ crN N f a = true := Bool.and_eq_true_iff.mp h
theorem gr_n1 {f : Nat} (h : grB N S f = true) : S.2 f = -1 := of_decide_eq_true (Bool.and_eq_true_iff.mp (Bool.and_eq_true_iff.mp h).2).2
theorem rs_up (h : bsI N S) {b : Nat} (hv : 0 ≤ v) : ∀ n, n ≤ 6 → rsN N S b n ≤ rsN N (bup N S a v 6) b n + v * (gwN N S b n : Int) := by
  intro n
  induction n with
  | zero =>
    intro _
    have e1 : (gwN N S b 0 : Int) = 0 := rfl
    have e2 : rsN N (bup N S a v 6) b 0 = rsN N S b 0 := rfl
    rw [e1, e2, Int.mul_zero]
    omega
  | succ n ih =>
    intro hn
    have i1 := ih (by omega)
    rw [gwN, rsN, rsN, Int.natCast_add, Int.mul_add]
    by_cases c : crN N n b = true
    · rw [if_pos c, if_pos c]
      by_cases d : stB N S a n = true
      · have g := (st_gr d).1
        rw [(bup_1 d (by omega)).1, h.2.2.1 n (gr_n1 g), if_pos (by rw [c, g]; rfl)]
        have : v * ((1 : Nat) : Int) = v := Int.mul_one v
        omega
      · rw [(bup_0 (i := 6) (v := v) (fun q => d q.2)).1]
        have : 0 ≤ v * (((if crN N n b && grB N S n then 1 else 0) : Nat) : Int) := Int.mul_nonneg hv (by omega)
        omega
    · rw [if_neg c, if_neg c, if_neg (fun q => c (Bool.and_eq_true_iff.mp q).1)]
      have : v * ((0 : Nat) : Int) = 0 := Int.mul_zero v
      omega
theorem cn_up : ∀ n, n ≤ 6 → cnN N (bup N S a v 6) n + gwN N S a n = cnN N S n := by
  intro n
  induction n with
  | zero => intro _; rfl
  | succ n ih =>
    intro hn
    have i1 := ih (by omega)
    rw [cnN, cnN, gwN]
    by_cases d : stB N S a n = true
    · have g := st_gr d
      have e : ¬ grB N (bup N S a v 6) n = true := fun q => by
        have := gr_n1 q
        rw [(bup_1 d (by omega)).2] at this
        omega
      rw [if_neg e, if_pos (by rw [g.1, g.2]; rfl), if_pos g.1]
      omega
    · have e : grB N (bup N S a v 6) n = grB N S n := by unfold grB; rw [(bup_0 (i := 6) (v := v) (fun q => d q.2)).2]
      rw [e, if_neg (c := (crN N n a && grB N S n) = true) (fun q => d (by
        have z := Bool.and_eq_true_iff.mp q
        unfold stB
        rw [z.1, z.2]; rfl))]
      omega
theorem bz_in {X : List Nat} (h : iN X N) (hz : ¬ bzN N S = -1) : ∃ z : Nat, bzN N S = (z : Int) ∧ (z : Int) < nA N 0 ∧ z < 6 ∧ 0 < gwN N S z 6 ∧ ∀ j : Nat, (j : Int) < nA N 0 → 0 < gwN N S j 6 → eaN N S z ≤ eaN N S j := by
  have H0 := h.H.1
  unfold bzN at *
  have q := (bs_in (N := N) (S := S) (nA N 0).toNat).resolve_left hz
  have q2 := (bs_min (N := N) (S := S) (nA N 0).toNat).2 hz
  refine ⟨(btN N S (nA N 0).toNat).toNat, (Int.toNat_of_nonneg q.1).symm, by omega, by omega, q.2.2, fun j hj hg => q2 j (by omega) hg⟩
theorem bsI.step {X : List Nat} (h : bsI N S) (hI : iN X N) : bsI N (bst N S) := by
  unfold bst
  by_cases c : bzN N S = -1
  · rw [if_pos c]; exact h
  · rw [if_neg c]
    obtain ⟨z, e, z0, z6, zg, zm⟩ := bz_in hI c
    rw [e, Int.toNat_natCast]
    have eb := ea_bd h z0 zg
    have d : ∀ f, (0 ≤ (bup N S z (eaN N S z) 6).1 f ∧ (bup N S z (eaN N S z) 6).1 f ≤ 9000) ∧ ((bup N S z (eaN N S z) 6).2 f = -1 → (bup N S z (eaN N S z) 6).1 f = 0) ∧ -1 ≤ (bup N S z (eaN N S z) 6).2 f ∧ (bup N S z (eaN N S z) 6).2 f < 6 := by
      intro f
      by_cases q : f < 6 ∧ stB N S z f = true
      · rw [(bup_1 q.2 q.1).1, (bup_1 q.2 q.1).2]
        exact ⟨⟨eb.1, eb.2.1⟩, fun z => absurd z (by omega), by omega, by omega⟩
      · rw [(bup_0 q).1, (bup_0 q).2]
        exact ⟨h.2.1 f, h.2.2.1 f, h.2.2.2 f⟩
    refine ⟨fun b hb => ?_, fun f => (d f).1, fun f => (d f).2.1, fun f => (d f).2.2⟩
    have u := rs_up (a := z) (b := b) (v := eaN N S z) h eb.1 6 (by omega)
    have r0 := (h.1 b hb).1
    have l0 := (hI.L b hb).1.1
    have le := rs_le (N := N) (S := bup N S z (eaN N S z) 6) (a := b) (fun f => (d f).1.1) 6
    refine ⟨?_, by omega⟩
    by_cases g : gwN N S b 6 = 0
    · rw [g] at u
      have : eaN N S z * ((0 : Nat) : Int) = 0 := Int.mul_zero _
      omega
    · have m := zm b hb (by omega)
      have m2 : eaN N S z * (gwN N S b 6 : Int) ≤ eaN N S b * (gwN N S b 6 : Int) := Int.mul_le_mul_of_nonneg_right m (by omega)
      have m3 := (ea_bd h hb (by omega)).2.2
      omega
theorem bst_cn {X : List Nat} (hI : iN X N) (hz : ¬ bzN N S = -1) : cnN N (bst N S) 6 + 1 ≤ cnN N S 6 := by
  obtain ⟨z, e, z0, z6, zg, zm⟩ := bz_in hI hz
  unfold bst
  rw [if_neg hz, e, Int.toNat_natCast]
  have := cn_up (N := N) (S := S) (a := z) (v := eaN N S z) 6 (by omega)
  omega
theorem bz_cn {X : List Nat} (hI : iN X N) (h0 : cnN N S 6 = 0) : bzN N S = -1 := by
  by_cases c : bzN N S = -1
  · exact c
  · have := bst_cn hI c; omega
theorem bstK_fix (hz : bzN N S = -1) : ∀ k, bstK N S k = S := by
  intro k
  induction k with
  | zero => rfl
  | succ k ih =>
    have e : bst N S = S := by unfold bst; rw [if_pos hz]
    rw [bstK, e]; exact ih
theorem cn_le : ∀ n, cnN N S n ≤ n := by
  intro n
  induction n with
  | zero => exact Nat.le_refl _
  | succ n ih => unfold cnN; split <;> omega
/-- how best and neck answer -/
def qBest (N : nT) (z : Int) : Int × Int := if 0 ≤ z ∧ z < nA N 1 then (0, (bstN N).1 z.toNat) else (2, -1)
def qNeck (N : nT) (z : Int) : Int × Int := if 0 ≤ z ∧ z < nA N 1 then (if nA N (248 + 20 * z.toNat + 3) = 1 then (0, (bstN N).2 z.toNat) else (5, -1)) else (2, -1)
end BST
