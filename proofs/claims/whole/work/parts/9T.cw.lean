section CP2
variable {h h1 h2 : zH} {b : Nat} {ls : Nat → List Nat} {L K : Nat}
/-- the lines of a net: rows, wires, back, spare -/
def lin (b k : Nat) : Nat := if k < 6 then b + 11 + 7 * k + 1 else if k < 12 then b + 11 + 7 * (k - 6) + 2 else if k = 12 then b + 3 else b + 4
theorem lin_row {a : Nat} (h : a < 6) : lin b a = b + 11 + 7 * a + 1 := by unfold lin; rw [if_pos h]
theorem lin_wire {a : Nat} (h : a < 6) : lin b (6 + a) = b + 11 + 7 * a + 2 := by unfold lin; rw [if_neg (by omega), if_pos (by omega), show 6 + a - 6 = a by omega]
theorem lin_ret : lin b 12 = b + 3 := rfl
theorem lin_spare : lin b 13 = b + 4 := rfl
theorem lin_inj {i j : Nat} (hi : i < 14) (hj : j < 14) (e : lin b i = lin b j) : i = j := by
  unfold lin at e
  repeat' split at e
  all_goals omega
theorem lin_in {i : Nat} (hi : i < 14) : b ≤ lin b i ∧ lin b i < b + 65 := by
  unfold lin
  split
  · omega
  · split
    · omega
    · split <;> omega
theorem lin_isL {i : Nat} (S : ClS h b) (hi : i < 14) : isL h (lin b i) := by
  unfold lin
  split
  · exact S.iR (by assumption)
  · split
    · exact S.iW (by omega)
    · split
      · exact S.iK
      · exact S.iS
def totL (ls : Nat → List Nat) (b : Nat) : Nat := ((List.range 14).map fun k => (ls (lin b k)).length).sum
theorem sum_one {F G : Nat → Nat} {n i : Nat} (hi : i < n) (e : ∀ k, k < n → k ≠ i → G k = F k) : ((List.range n).map G).sum + F i = ((List.range n).map F).sum + G i := by
  induction n with
  | zero => omega
  | succ n ih =>
    rw [List.range_succ, List.map_append, List.map_append, List.sum_append, List.sum_append]
    simp only [List.map_cons, List.map_nil, List.sum_cons, List.sum_nil]
    by_cases c : i = n
    · subst c
      have q : (List.range i).map G = (List.range i).map F := List.map_congr_left (fun k hk => e k (by have := List.mem_range.mp hk; omega) (by have := List.mem_range.mp hk; omega))
      rw [q]
      omega
    · have q := ih (by omega) (fun k hk hn => e k (by omega) hn)
      have q2 := e n (by omega) (by omega)
      omega
theorem totL_upd {i : Nat} {r : List Nat} (hi : i < 14) : totL (updF ls (lin b i) r) b + (ls (lin b i)).length = totL ls b + r.length := by
  unfold totL
  have q := sum_one (F := fun k => (ls (lin b k)).length) (G := fun k => (updF ls (lin b i) r (lin b k)).length) hi (fun k hk hn => by rw [updF_ne (fun e => hn (lin_inj hk hi e))])
  rw [updF_eq] at q
  exact q
theorem totL_mv {i j : Nat} (hi : i < 14) (hj : j < 14) (n : i ≠ j) : totL (mvS ls (lin b i) (lin b j)) b = totL ls b := by
  unfold mvS
  have q1 := totL_upd (b := b) (ls := updF ls (lin b j) (ls (lin b j) ++ ls (lin b i))) (r := []) hi
  have q2 := totL_upd (b := b) (ls := ls) (r := ls (lin b j) ++ ls (lin b i)) hj
  rw [updF_ne (fun e => n (lin_inj hi hj e))] at q1
  rw [List.length_append] at q2
  simp only [List.length_nil] at q1
  omega
theorem totL_ge {i : Nat} (hi : i < 14) : (ls (lin b i)).length ≤ totL ls b := by
  have q := totL_upd (b := b) (ls := ls) (r := []) hi
  simp only [List.length_nil] at q
  omega
theorem totL_all (e : ∀ k, k < 13 → ls (lin b k) = []) : totL ls b = (ls (b + 4)).length := by
  unfold totL
  rw [List.range_succ, List.map_append, List.sum_append]
  have q : (List.range 13).map (fun k => (ls (lin b k)).length) = (List.range 13).map (fun _ => 0) := List.map_congr_left (fun k hk => by rw [e k (List.mem_range.mp hk)]; rfl)
  have z : ((List.range 13).map (fun _ => 0)).sum = 0 := by decide
  rw [q, z]
  simp [lin_spare]
/-- a net of which nothing is known but where its packets are -/
def CW (h : zH) (b : Nat) (ls : Nat → List Nat) : Prop := ClS h b ∧ (∃ n : Nat, n ≤ 6 ∧ zi h 161 b = nI n ∧ ∀ a, n ≤ a → a < 6 → ls (lin b a) = [] ∧ ls (lin b (6 + a)) = []) ∧ zi h 167 b = nI (totL ls b) ∧ totL ls b ≤ 480
/-- the net's own cells and the packets in its lines -/
def ownS (b : Nat) (ls : Nat → List Nat) (a : Nat) : Prop := (b ≤ a ∧ a < b + 65) ∨ ∃ k, k < 14 ∧ a ∈ ls (lin b k)
theorem ownS_mv {i j a : Nat} (hi : i < 14) (hj : j < 14) (q : ownS b (mvS ls (lin b i) (lin b j)) a) : ownS b ls a := by
  rcases q with q | ⟨k, hk, q⟩
  · exact Or.inl q
  · unfold mvS at q
    by_cases c : k = i
    · subst c; rw [updF_eq] at q; cases q
    · rw [updF_ne (fun e => c (lin_inj hk hi e))] at q
      by_cases d : k = j
      · subst d; rw [updF_eq] at q
        rcases List.mem_append.mp q with q | q
        · exact Or.inr ⟨k, hk, q⟩
        · exact Or.inr ⟨i, hi, q⟩
      · rw [updF_ne (fun e => d (lin_inj hk hj e))] at q
        exact Or.inr ⟨k, hk, q⟩
end CP2
