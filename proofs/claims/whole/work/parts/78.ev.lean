section CX8
variable {h h1 : zH} {b : Nat} {π : Nat → Nat} {ls : Nat → List Nat} {N : nT} {X : List Nat} {t : Nat}
theorem nI_rem {a c : Nat} (ha : a < 2 ^ 31) (h0 : 0 < c) (hc : c < 2 ^ 31) : nI a - nI a / nI c * nI c = nI (a % c) := by
  have hd : nI a / nI c = nI (a / c) := by
    rw [← jI_nat, ← jI_nat, ← jI_nat]
    apply Int32.toInt_inj.mp
    have q1 : a / c ≤ a := Nat.div_le_self a c
    have q2 : (0 : Int) ≤ (a : Int) / (c : Int) := Int.ediv_nonneg (by omega) (by omega)
    rw [Int32.toInt_div_of_ne_right _ _ (fun q => ?_), jI_toInt (by omega) (by omega), jI_toInt (by omega) (by omega), jI_toInt (by omega) (by omega), Int.tdiv_eq_ediv_of_nonneg (by omega)]
    · exact (Int.natCast_ediv a c).symm
    · have := congrArg Int32.toInt q
      rw [jI_toInt (by omega) (by omega)] at this
      have e : (-1 : Int32).toInt = -1 := by decide
      omega
  rw [hd, pk_mul, ← jI_nat, ← jI_nat, ← jI_nat, jI_sub]
  congr 1
  have := Nat.div_add_mod a c
  rw [Nat.mul_comm] at this
  omega
def evL (E : List (Int × Int × Int × Int)) (e : Int × Int × Int × Int) : List (Int × Int × Int × Int) := (if E.length = 24 then E.drop 1 else E) ++ [e]
theorem evN_L {k q f : Int} : evN N k q f = uE N (evL (nE N) (k, nA N 2, q, f)) := rfl
theorem EvC.add {E : List (Int × Int × Int × Int)} {e : Int × Int × Int × Int} {s : Nat} (hE : E.length ≤ 24) (hs : s < 24) (q : ∀ (i : Nat) (e : Int × Int × Int × Int), E.reverse[i]? = some e → zI h (b + 6) ((s + 23 - i) % 24) = jI e.1 ∧ zI h (b + 7) ((s + 23 - i) % 24) = jI e.2.1 ∧ zI h (b + 8) ((s + 23 - i) % 24) = jI e.2.2.1 ∧ zI h (b + 9) ((s + 23 - i) % 24) = jI e.2.2.2) (h36 : zi h1 36 (b + 5) = nI ((s + 1) % 24)) (h37 : zi h1 37 (b + 5) = nI (min (E.length + 1) 24)) (r6 : ∀ i, zI h1 (b + 6) i = if i = s then jI e.1 else zI h (b + 6) i) (r7 : ∀ i, zI h1 (b + 7) i = if i = s then jI e.2.1 else zI h (b + 7) i) (r8 : ∀ i, zI h1 (b + 8) i = if i = s then jI e.2.2.1 else zI h (b + 8) i) (r9 : ∀ i, zI h1 (b + 9) i = if i = s then jI e.2.2.2 else zI h (b + 9) i) : EvC h1 b (evL E e) := by
  have hl : (evL E e).length = min (E.length + 1) 24 := by
    unfold evL
    rw [List.length_append, List.length_singleton]
    split
    · rw [List.length_drop]; omega
    · omega
  refine ⟨(s + 1) % 24, Nat.mod_lt _ (by omega), h36, by rw [hl]; exact h37, fun i u hu => ?_⟩
  have hi : i < (evL E e).length := by
    have := (List.getElem?_eq_some_iff.mp hu).1
    rw [List.length_reverse] at this
    exact this
  rw [hl] at hi
  cases i with
  | zero =>
    have eu : u = e := by
      unfold evL at hu
      rw [List.reverse_append] at hu
      simpa using hu.symm
    have ei : ((s + 1) % 24 + 23 - 0) % 24 = s := by omega
    rw [eu, ei, r6, r7, r8, r9, if_pos rfl, if_pos rfl, if_pos rfl, if_pos rfl]
    exact ⟨rfl, rfl, rfl, rfl⟩
  | succ i =>
    have ei : ((s + 1) % 24 + 23 - (i + 1)) % 24 = (s + 23 - i) % 24 := by omega
    have en : ¬ (s + 23 - i) % 24 = s := by omega
    have hu2 : E.reverse[i]? = some u := by
      unfold evL at hu
      rw [List.reverse_append, List.reverse_singleton, List.singleton_append, List.getElem?_cons_succ] at hu
      split at hu
      · rw [List.getElem?_reverse (by rw [List.length_drop]; omega), List.length_drop, List.getElem?_drop] at hu
        rw [List.getElem?_reverse (by omega), ← hu]
        congr 1
        omega
      · exact hu
    rw [ei, r6, r7, r8, r9, if_neg en, if_neg en, if_neg en, if_neg en]
    exact q i u hu2
def FrEv (b : Nat) (h h1 : zH) : Prop := (zx h1 = zx h ∧ zt h1 = zt h) ∧ (∀ a, zk h1 a = zk h a ∧ zn h1 a = zn h a) ∧ (∀ f a, zr h1 f a = zr h f a ∧ zl h1 f a = zl h f a) ∧ (∀ a i, zL h1 a i = zL h a i ∧ zR h1 a i = zR h a i) ∧ (∀ f a, ¬ ((f = 36 ∨ f = 37) ∧ a = b + 5) → zi h1 f a = zi h f a) ∧ ∀ a i, ¬ (b + 5 < a ∧ a < b + 10) → zI h1 a i = zI h a i
theorem PkA.same (P : PkA h b N π ls X) {N' : nT} (ex : zx h1 = zx h) (ek : ∀ a, zk h1 a = zk h a) (ei : ∀ f a, (192 ≤ f ∧ f ≤ 200) ∨ f = 167 → zi h1 f a = zi h f a) (el : ∀ a, zl h1 197 a = zl h 197 a) (e : ∀ k, 368 ≤ k → nA N' k = nA N k) (eR : nR N' = nR N) (eW : nW N' = nW N) (eK : nK N' = nK N) : PkA h1 b N' π ls X := by
  obtain ⟨p1, p2, p3, p4, p5, p6, p7⟩ := P
  have lv : ∀ x, liv N' x → liv N x := fun x hx => by unfold liv at *; rw [← e _ (by omega)]; exact hx
  refine ⟨fun x hx => ?_, fun x y hx hy => p2 x y (lv x hx) (lv y hy), fun x hx => p3 x (lv x hx), fun a ha => ?_, ?_, fun x hx => (p6 x hx).fr ex ek, ?_⟩
  · obtain ⟨q1, q2, q3⟩ := p1 x (lv x hx)
    exact ⟨q1.congr (fun q h1 h2 => ei q _ (by omega)) (el _) (fun k h1 h2 => e k (by omega)), by rw [ex]; exact q2, by rw [ek]; exact q3⟩
  · obtain ⟨q1, q2, q3, q4⟩ := p4 a ha
    rw [eR, eW]
    refine ⟨q1, q2, fun x hx => ?_, fun x hx => ?_⟩
    · rw [ei _ _ (by omega), e _ (by omega), e _ (by omega)]; exact q3 x hx
    · rw [ei _ _ (by omega), ei _ _ (by omega), e _ (by omega), e _ (by omega), e _ (by omega)]; exact q4 x hx
  · rw [eK]
    refine ⟨p5.1, fun x hx => ?_⟩
    rw [ei _ _ (by omega), e _ (by omega)]; exact p5.2 x hx
  · rw [ei _ _ (by omega), nLv_congr (N' := N') (N := N) (fun x _ => e _ (by omega))]
    exact ⟨p7.1, p7.2.1, fun x hx => by rw [e _ (by omega)]; exact p7.2.2 x hx⟩
theorem CX.uEv {E : List (Int × Int × Int × Int)} (c : CX h b π ls N X t) (f : FrEv b h h1) (k : EvC h1 b E) : CX h1 b π ls (uE N E) X t ∧ CSt b ls h ls h1 := by
  obtain ⟨⟨f0, f1⟩, f2, f3, f4, f5, f6⟩ := f
  refine ⟨⟨c.1.fr (by rw [f0]; exact Nat.le_refl _) (fun a _ _ => ⟨(f2 a).1, (f2 a).2, fun q _ _ _ => (f3 q a).1, fun i => (f4 a i).2⟩), c.2.1.fr f0 (fun a => (f2 a).1) (fun g a => (f3 g a).1) (fun a => f5 98 a (by omega)), ?_, fun a ha a6 => ?_, fun d hd d6 => ?_, c.2.2.2.2.2.1.same f0 (fun a => (f2 a).1) (fun g a hg => f5 g a (by omega)) (fun a => (f3 _ a).2) (fun _ _ => rfl) rfl rfl rfl, k, ?_⟩, ⟨⟨by rw [f0]; exact Nat.le_refl _, by rw [f0, f1], mdB.eq f0 (f5 167 b (by omega))⟩, fun a _ => f2 a, fun a _ ho hk => by
    clear hk
    exact ⟨fun g => ⟨f5 g a (by omega), (f3 g a).2, (f3 g a).1⟩, fun i => ⟨f6 a i (by omega), (f4 a i).1, (f4 a i).2⟩⟩⟩, fun _ _ => rfl⟩
  · obtain ⟨n1, n2, n3, n4, n5⟩ := c.2.2.1
    refine ⟨?_, ?_, ?_, ?_, ?_⟩
    · rw [f5 _ _ (by omega)]; exact n1
    · rw [f5 _ _ (by omega)]; exact n2
    · rw [f5 _ _ (by omega)]; exact n3
    · rw [f5 _ _ (by omega)]; exact n4
    · rw [f5 _ _ (by omega)]; exact n5
  · exact (c.2.2.2.1 a ha a6).congr (fun j hj => by have := lkF_bd hj; exact f5 _ _ (by omega)) (f3 _ _).2 (fun j _ _ => (f3 _ _).2) (fun _ _ _ _ => f6 _ _ (by omega)) (fun k _ _ => rfl)
  · exact (c.2.2.2.2.1 d hd d6).congr (fun j hj => f5 _ _ (by omega)) (fun _ => f6 _ _ (by omega)) (fun k _ _ => rfl) (fun k _ => rfl)
  · exact ⟨c.2.2.2.2.2.2.2.1, fun i q hq g hg => by rw [f6 _ _ (by omega)]; exact c.2.2.2.2.2.2.2.2 i q hq g hg⟩
/-- losses -/
theorem CX.setLoss {z : Int} (c : CX h b π ls N X t) : CX (zSi h 170 b (jI z)) b π ls (uA N 6 z) X t ∧ CSt b ls h ls (zSi h 170 b (jI z)) := by
  have f : FrSc b h (zSi h 170 b (jI z)) := FrSc.si (by omega) (by omega)
  refine ⟨c.scal f (fun k hk => nA_ne (by omega)) (nA_ne (by omega)) rfl rfl rfl rfl rfl ?_ ?_ ?_, f.st⟩
  · obtain ⟨n1, n2, n3, n4, n5⟩ := c.2.2.1
    refine ⟨?_, ?_, ?_, ?_, ?_⟩
    · rw [zi_Si, if_neg (by omega), nA_ne (by omega)]; exact n1
    · rw [zi_Si, if_neg (by omega), nA_ne (by omega)]; exact n2
    · rw [zi_Si, if_neg (by omega), nA_ne (by omega)]; exact n3
    · rw [zi_Si, if_pos ⟨rfl, rfl⟩, nA_eq]
    · rw [zi_Si, if_neg (by omega), nA_ne (by omega)]; exact n5
  · intro a ha a6
    rw [nA_ne (by omega)] at ha
    exact (c.2.2.2.1 a ha a6).congr (fun j hj => by have := lkF_bd hj; rw [zi_Si, if_neg (by omega)]) rfl (fun _ _ _ => rfl) (fun _ _ _ _ => rfl) (fun k h1 h2 => nA_ne (by omega))
  · intro g hg g6
    rw [nA_ne (by omega)] at hg
    exact (c.2.2.2.2.1 g hg g6).congr (fun j hj => by rw [zi_Si, if_neg (by omega)]) (fun _ => rfl) (fun k h1 h2 => nA_ne (by omega)) (fun k hk => nA_ne (by omega))
end CX8
