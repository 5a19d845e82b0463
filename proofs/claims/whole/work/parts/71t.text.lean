/-! A TEXT AND ITS TOKENS: t tells the bytes, n how many; a token: its sort (0 end, 1 word, 2 number, 3 sign, 4 wrong), where it begins, where it ends, its value -/
section TXT
abbrev tkT : Type := Nat × Nat × Nat × Int
variable {t : Nat → Nat} {n : Nat} {T : tkT}
def bY (x : Int32) : Nat := (x.toBitVec &&& 255#32).toNat
theorem bY_lt (x : Int32) : bY x < 256 := by
  unfold bY
  rw [BitVec.toNat_and]
  exact Nat.lt_of_le_of_lt Nat.and_le_right (by decide)
theorem bY_eq (x : Int32) : x &&& nI 255 = nI (bY x) := by
  apply Int32.toBitVec_inj.mp
  rw [Int32.toBitVec_and]
  show x.toBitVec &&& 255#32 = BitVec.ofNat 32 (bY x)
  unfold bY
  rw [BitVec.ofNat_toNat, BitVec.setWidth_eq]
def spB (t : Nat → Nat) (n e : Nat) : Bool := decide (e < n) && (decide (t e = 10) || decide (t e = 32))
def inR (t : Nat → Nat) (n lo hi e : Nat) : Bool := decide (e < n) && (decide (lo ≤ t e) && decide (t e ≤ hi))
/-- from e on, as long as p says so, k steps at most -/
def whl (p : Nat → Bool) : Nat → Nat → Nat
  | 0, e => e
  | k + 1, e => if p e then whl p k (e + 1) else e
theorem whl_t {p : Nat → Bool} {k e : Nat} (h : p e = true) : whl p (k + 1) e = whl p k (e + 1) := by rw [whl, if_pos h]
theorem whl_f {p : Nat → Bool} {k e : Nat} (h : p e = false) : whl p k e = e := by
  cases k with
  | zero => rfl
  | succ k => rw [whl, if_neg (by rw [h]; decide)]
theorem whl_ge {p : Nat → Bool} : ∀ k e, e ≤ whl p k e ∧ whl p k e ≤ e + k := by
  intro k
  induction k with
  | zero => intro e; exact ⟨Nat.le_refl _, Nat.le_refl _⟩
  | succ k ih =>
    intro e
    rw [whl]
    split
    · have := ih (e + 1); omega
    · omega
theorem whl_in {p : Nat → Bool} : ∀ k e i, e ≤ i → i < whl p k e → p i = true := by
  intro k
  induction k with
  | zero => intro e i h1 h2; rw [whl] at h2; omega
  | succ k ih =>
    intro e i h1 h2
    rw [whl] at h2
    by_cases c : p e = true
    · rw [if_pos c] at h2
      by_cases d : i = e
      · subst d; exact c
      · exact ih (e + 1) i (by omega) h2
    · rw [if_neg c] at h2
      omega
/-- it stops where p says no -/
theorem whl_end {p : Nat → Bool} (hp : ∀ e, n ≤ e → p e = false) : ∀ k e, n ≤ e + k → p (whl p k e) = false := by
  intro k
  induction k with
  | zero => intro e h; exact hp e (by omega)
  | succ k ih =>
    intro e h
    rw [whl]
    by_cases c : p e = true
    · rw [if_pos c]; exact ih (e + 1) (by omega)
    · rw [if_neg c]; exact Bool.eq_false_iff.mpr c
def skN (t : Nat → Nat) (n e : Nat) : Nat := whl (spB t n) (n - e) e
def rnN (t : Nat → Nat) (n lo hi b : Nat) : Nat := whl (inR t n lo hi) (n - b) b
theorem spB_out {e : Nat} (h : n ≤ e) : spB t n e = false := by unfold spB; rw [decide_eq_false (by omega), Bool.false_and]
theorem inR_out {lo hi e : Nat} (h : n ≤ e) : inR t n lo hi e = false := by unfold inR; rw [decide_eq_false (by omega), Bool.false_and]
theorem skN_t {e : Nat} (h : spB t n e = true) : skN t n e = skN t n (e + 1) := by
  have : e < n := by
    by_cases c : e < n
    · exact c
    · rw [spB_out (by omega)] at h; cases h
  unfold skN
  rw [show n - e = (n - (e + 1)) + 1 by omega, whl_t h]
theorem skN_f {e : Nat} (h : spB t n e = false) : skN t n e = e := whl_f h
theorem rnN_t {lo hi e : Nat} (h : inR t n lo hi e = true) : rnN t n lo hi e = rnN t n lo hi (e + 1) := by
  have : e < n := by
    by_cases c : e < n
    · exact c
    · rw [inR_out (by omega)] at h; cases h
  unfold rnN
  rw [show n - e = (n - (e + 1)) + 1 by omega, whl_t h]
theorem rnN_f {lo hi e : Nat} (h : inR t n lo hi e = false) : rnN t n lo hi e = e := whl_f h
theorem skN_bd {e : Nat} (h : e ≤ n) : e ≤ skN t n e ∧ skN t n e ≤ n := by
  have := whl_ge (p := spB t n) (n - e) e
  unfold skN
  omega
theorem rnN_bd {lo hi e : Nat} (h : e ≤ n) : e ≤ rnN t n lo hi e ∧ rnN t n lo hi e ≤ n := by
  have := whl_ge (p := inR t n lo hi) (n - e) e
  unfold rnN
  omega
theorem rnN_in {lo hi b i : Nat} (h1 : b ≤ i) (h2 : i < rnN t n lo hi b) : inR t n lo hi i = true := whl_in _ _ _ h1 h2
theorem rnN_gt {lo hi b : Nat} (h : inR t n lo hi b = true) : b < rnN t n lo hi b := by
  rw [rnN_t h]
  have : b < n := by
    by_cases c : b < n
    · exact c
    · rw [inR_out (by omega)] at h; cases h
  have := rnN_bd (t := t) (n := n) (lo := lo) (hi := hi) (e := b + 1) (by omega)
  omega
/-- the value of k digits from b on -/
def vaN (t : Nat → Nat) (b : Nat) : Nat → Int
  | 0 => 0
  | k + 1 => vaN t b k * 10 + t (b + k) - 48
/-- the same as the model counts it -/
def vmN (t : Nat → Nat) (b : Nat) : Nat → Int
  | 0 => 0
  | k + 1 => min 99999 (10 * vmN t b k + t (b + k) - 48)
theorem vaN_bd {b : Nat} : ∀ k, (∀ i, i < k → 48 ≤ t (b + i) ∧ t (b + i) ≤ 57) → 0 ≤ vaN t b k ∧ vaN t b k < 10 ^ k := by
  intro k
  induction k with
  | zero => intro _; exact ⟨Int.le_refl _, by rw [vaN]; decide⟩
  | succ k ih =>
    intro h
    have q := ih (fun i hi => h i (by omega))
    have d := h k (by omega)
    rw [vaN, Int.pow_succ]
    omega
theorem vmN_bd {b : Nat} : ∀ k, (∀ i, i < k → 48 ≤ t (b + i) ∧ t (b + i) ≤ 57) → 0 ≤ vmN t b k ∧ vmN t b k ≤ 99999 := by
  intro k
  induction k with
  | zero => intro _; exact ⟨Int.le_refl _, by rw [vmN]; decide⟩
  | succ k ih =>
    intro h
    have q := ih (fun i hi => h i (by omega))
    have d := h k (by omega)
    rw [vmN]
    omega
theorem vm_va {b : Nat} : ∀ k, k ≤ 4 → (∀ i, i < k → 48 ≤ t (b + i) ∧ t (b + i) ≤ 57) → vmN t b k = vaN t b k := by
  intro k
  induction k with
  | zero => intro _ _; rfl
  | succ k ih =>
    intro hk h
    have e := ih (by omega) (fun i hi => h i (by omega))
    have d := h k (by omega)
    have q := vaN_bd (b := b) k (fun i hi => h i (by omega))
    have q4 : vaN t b k < 1000 := by
      have c : k = 0 ∨ k = 1 ∨ k = 2 ∨ k = 3 := by omega
      rcases c with c | c | c | c <;> subst c <;> omega
    rw [vmN, vaN, e]
    omega
/-- the token that begins at b -/
def toB (t : Nat → Nat) (n b : Nat) : tkT :=
  if n ≤ b then (0, b, b, 0)
  else if 97 ≤ t b ∧ t b ≤ 122 then (1, b, rnN t n 97 122 b, 0)
  else if 48 ≤ t b ∧ t b ≤ 57 then (if rnN t n 48 57 b - b ≤ 4 then (2, b, rnN t n 48 57 b, vaN t b (rnN t n 48 57 b - b)) else (4, b, rnN t n 48 57 b, 0))
  else if t b = 59 then (3, b, b + 1, 0) else (4, b, b + 1, 0)
def tokN (t : Nat → Nat) (n e : Nat) : tkT := toB t n (skN t n e)
def nxT (t : Nat → Nat) (n : Nat) (T : tkT) : tkT := tokN t n T.2.2.1
/-- what is always so of a token -/
def tkOk (n : Nat) (T : tkT) : Prop := T.1 ≤ 4 ∧ T.2.1 ≤ T.2.2.1 ∧ T.2.2.1 ≤ n ∧ (T.1 = 0 ↔ T.2.1 = n) ∧ (T.1 ≠ 0 → T.2.1 < T.2.2.1) ∧ (T.1 = 2 → 0 ≤ T.2.2.2 ∧ T.2.2.2 ≤ 9999)
theorem toB_ok {b : Nat} (h : b ≤ n) : tkOk n (toB t n b) ∧ (toB t n b).2.1 = b := by
  unfold toB
  by_cases c0 : n ≤ b
  · rw [if_pos c0]
    exact ⟨⟨by omega, Nat.le_refl _, h, ⟨fun _ => by show b = n; omega, fun _ => rfl⟩, fun q => absurd rfl q, fun q => absurd (show (0 : Nat) = 2 from q) (by omega)⟩, rfl⟩
  · rw [if_neg c0]
    by_cases c1 : 97 ≤ t b ∧ t b ≤ 122
    · rw [if_pos c1]
      have g := rnN_gt (t := t) (n := n) (lo := 97) (hi := 122) (b := b) (by unfold inR; rw [decide_eq_true (by omega), decide_eq_true c1.1, decide_eq_true c1.2]; rfl)
      have g2 := rnN_bd (t := t) (n := n) (lo := 97) (hi := 122) (e := b) h
      exact ⟨⟨by show 1 ≤ 4; omega, by show b ≤ rnN t n 97 122 b; omega, g2.2, ⟨fun q => absurd (show (1 : Nat) = 0 from q) (by omega), fun q => absurd (show b = n from q) (by omega)⟩, fun _ => g, fun q => absurd (show (1 : Nat) = 2 from q) (by omega)⟩, rfl⟩
    · rw [if_neg c1]
      by_cases c2 : 48 ≤ t b ∧ t b ≤ 57
      · rw [if_pos c2]
        have g := rnN_gt (t := t) (n := n) (lo := 48) (hi := 57) (b := b) (by unfold inR; rw [decide_eq_true (by omega), decide_eq_true c2.1, decide_eq_true c2.2]; rfl)
        have g2 := rnN_bd (t := t) (n := n) (lo := 48) (hi := 57) (e := b) h
        by_cases c3 : rnN t n 48 57 b - b ≤ 4
        · rw [if_pos c3]
          have v := vaN_bd (t := t) (b := b) (rnN t n 48 57 b - b) (fun i hi => by
            have q := rnN_in (t := t) (n := n) (lo := 48) (hi := 57) (b := b) (i := b + i) (by omega) (by omega)
            unfold inR at q
            simp only [Bool.and_eq_true, decide_eq_true_eq] at q
            exact q.2)
          have v4 : vaN t b (rnN t n 48 57 b - b) < 10000 := by
            have c : rnN t n 48 57 b - b = 1 ∨ rnN t n 48 57 b - b = 2 ∨ rnN t n 48 57 b - b = 3 ∨ rnN t n 48 57 b - b = 4 := by omega
            rcases c with c | c | c | c <;> rw [c] at v ⊢ <;> omega
          exact ⟨⟨by show 2 ≤ 4; omega, by show b ≤ rnN t n 48 57 b; omega, g2.2, ⟨fun q => absurd (show (2 : Nat) = 0 from q) (by omega), fun q => absurd (show b = n from q) (by omega)⟩, fun _ => g, fun _ => ⟨v.1, by show vaN t b (rnN t n 48 57 b - b) ≤ 9999; omega⟩⟩, rfl⟩
        · rw [if_neg c3]
          exact ⟨⟨by show 4 ≤ 4; omega, by show b ≤ rnN t n 48 57 b; omega, g2.2, ⟨fun q => absurd (show (4 : Nat) = 0 from q) (by omega), fun q => absurd (show b = n from q) (by omega)⟩, fun _ => g, fun q => absurd (show (4 : Nat) = 2 from q) (by omega)⟩, rfl⟩
      · rw [if_neg c2]
        by_cases c3 : t b = 59
        · rw [if_pos c3]
          exact ⟨⟨by show 3 ≤ 4; omega, by show b ≤ b + 1; omega, by show b + 1 ≤ n; omega, ⟨fun q => absurd (show (3 : Nat) = 0 from q) (by omega), fun q => absurd (show b = n from q) (by omega)⟩, fun _ => by show b < b + 1; omega, fun q => absurd (show (3 : Nat) = 2 from q) (by omega)⟩, rfl⟩
        · rw [if_neg c3]
          exact ⟨⟨by show 4 ≤ 4; omega, by show b ≤ b + 1; omega, by show b + 1 ≤ n; omega, ⟨fun q => absurd (show (4 : Nat) = 0 from q) (by omega), fun q => absurd (show b = n from q) (by omega)⟩, fun _ => by show b < b + 1; omega, fun q => absurd (show (4 : Nat) = 2 from q) (by omega)⟩, rfl⟩
theorem tokN_ok {e : Nat} (h : e ≤ n) : tkOk n (tokN t n e) ∧ e ≤ (tokN t n e).2.1 := by
  have q := skN_bd (t := t) (n := n) (e := e) h
  have g := toB_ok (t := t) (n := n) (b := skN t n e) q.2
  unfold tokN
  exact ⟨g.1, by rw [g.2]; exact q.1⟩
theorem nxT_ok (h : tkOk n T) : tkOk n (nxT t n T) ∧ T.2.2.1 ≤ (nxT t n T).2.1 := tokN_ok h.2.2.1
/-- the word at T is the i-th of the program's words -/
def bN (i j : Nat) : Nat := ((zByt.getD i []).getD j 0).toInt.toNat
theorem bN_eq {i j : Nat} (hi : i < 9) (hj : j < zLen.getD i 0) : (zByt.getD i []).getD j 0 = nI (bN i j) ∧ bN i j < 128 := by
  have q := of_decide_eq_true (List.all_eq_true.mp (List.all_eq_true.mp sb_chN i (List.mem_range.mpr hi)) j (List.mem_range.mpr hj))
  unfold bN
  generalize (zByt.getD i []).getD j 0 = z at q
  have : (nI z.toInt.toNat).toInt = z.toInt := by rw [nI_toInt (by omega)]; omega
  exact ⟨Int32.toInt_inj.mp this.symm, by omega⟩
def wdB (t : Nat → Nat) (T : tkT) (i : Nat) : Bool := decide (T.1 = 1) && (decide (T.2.2.1 - T.2.1 = zLen.getD i 0) && (List.range (zLen.getD i 0)).all fun j => decide (t (T.2.1 + j) = bN i j))
theorem wd_dif : ((List.range 8).all fun i => (List.range 8).all fun j => decide (i = j) || !(decide (zLen.getD i 0 = zLen.getD j 0) && (List.range (zLen.getD i 0)).all fun p => decide (bN i p = bN j p))) = true := by decide +kernel
theorem wd_one {i j : Nat} (hi : i < 8) (hj : j < 8) (a : wdB t T i = true) (b : wdB t T j = true) : i = j := by
  unfold wdB at a b
  simp only [Bool.and_eq_true, decide_eq_true_eq] at a b
  have q := List.all_eq_true.mp (List.all_eq_true.mp wd_dif i (List.mem_range.mpr hi)) j (List.mem_range.mpr hj)
  rw [Bool.or_eq_true] at q
  rcases q with q | q
  · exact of_decide_eq_true q
  · exfalso
    have e : zLen.getD i 0 = zLen.getD j 0 := by rw [← a.2.1, ← b.2.1]
    rw [decide_eq_true e, Bool.true_and, Bool.not_eq_true', Bool.eq_false_iff] at q
    refine q (List.all_eq_true.mpr fun p hp => ?_)
    have p1 := of_decide_eq_true (List.all_eq_true.mp a.2.2 p hp)
    have p2 := of_decide_eq_true (List.all_eq_true.mp b.2.2 p (by rw [← e]; exact hp))
    exact decide_eq_true (by rw [← p1, ← p2])
/-- which of the words it is -/
def kyF (t : Nat → Nat) (T : tkT) : Nat → Nat → Int
  | 0, _ => -1
  | k + 1, i => if wdB t T i then (i : Int) else kyF t T k (i + 1)
def keyN (t : Nat → Nat) (T : tkT) : Int := kyF t T 8 0
theorem kyF_bd : ∀ k i, -1 ≤ kyF t T k i ∧ kyF t T k i < (i : Int) + k := by
  intro k
  induction k with
  | zero => intro i; rw [kyF]; omega
  | succ k ih =>
    intro i
    rw [kyF]
    split
    · omega
    · have := ih (i + 1); omega
theorem kyF_ge : ∀ k i, kyF t T k i = -1 ∨ (i : Int) ≤ kyF t T k i := by
  intro k
  induction k with
  | zero => intro i; exact Or.inl rfl
  | succ k ih =>
    intro i
    rw [kyF]
    split
    · exact Or.inr (Int.le_refl _)
    · have := ih (i + 1); omega
theorem kyF_iff : ∀ k i j, i ≤ j → j < i + k → i + k ≤ 8 → (kyF t T k i = (j : Int) ↔ wdB t T j = true) := by
  intro k
  induction k with
  | zero => intro i j h1 h2 _; omega
  | succ k ih =>
    intro i j h1 h2 h3
    rw [kyF]
    by_cases c : wdB t T i = true
    · rw [if_pos c]
      constructor
      · intro e
        have : i = j := by omega
        rw [← this]; exact c
      · intro e
        have := wd_one (t := t) (T := T) (by omega) (by omega) c e
        omega
    · rw [if_neg c]
      by_cases d : j = i
      · subst d
        constructor
        · intro e
          have := kyF_ge (t := t) (T := T) k (j + 1)
          omega
        · intro e; exact absurd e c
      · exact ih (i + 1) j (by omega) (by omega) (by omega)
theorem key_wd {i : Nat} (hi : i < 8) : wdB t T i = decide (keyN t T = (i : Int)) := by
  unfold keyN
  by_cases c : wdB t T i = true
  · rw [c, decide_eq_true ((kyF_iff 8 0 i (by omega) (by omega) (by omega)).mpr c)]
  · rw [Bool.eq_false_iff.mpr c, decide_eq_false (fun q => c ((kyF_iff 8 0 i (by omega) (by omega) (by omega)).mp q))]
theorem key_bd : -1 ≤ keyN t T ∧ keyN t T < 8 := kyF_bd 8 0
theorem key_word (h : ¬ T.1 = 1) : keyN t T = -1 := by
  have q := key_bd (t := t) (T := T)
  by_cases c : keyN t T = -1
  · exact c
  · exfalso
    have e : keyN t T = ((keyN t T).toNat : Int) := by omega
    have z := key_wd (t := t) (T := T) (i := (keyN t T).toNat) (by omega)
    rw [decide_eq_true e] at z
    unfold wdB at z
    rw [decide_eq_false h, Bool.false_and] at z
    cases z
end TXT
