section CX5
variable {h h1 : zH} {b : Nat} {π : Nat → Nat} {ls : Nat → List Nat} {N N' : nT} {X : List Nat} {t : Nat}
theorem CSt.app {L p : Nat} (s : lnS h ls) (f : FrLn h h1) (hL : isL h L) (hb : b ≤ L ∧ L < b + 65) (hp : zk h p = 6) (ho : outL h ls p) (a : appS h h1 ls L p) : CSt b ls h (updF ls L (ls L ++ [p])) h1 := by
  obtain ⟨f0, f1, f2, f3, f4, f5, f6, f7, f8, f9⟩ := f
  obtain ⟨a1, a2, a3, a4⟩ := a
  refine ⟨⟨⟨by rw [f0]; exact Nat.le_refl _, by rw [f0, f1], mdB.eq f0 (f4 167 b (by omega))⟩, fun c _ => ⟨f2 c, f3 c⟩, fun c hc hout hk => ⟨fun g => ⟨?_, f5 g c, ?_⟩, fun i => ⟨f7 c i, f8 c i, f9 c i⟩⟩⟩, fun K hK => updF_ne (by omega)⟩
  · by_cases e : g = 98
    · rw [e, a3, if_neg (by omega)]
    · exact f4 g c e
  · by_cases e : g = 96
    · rw [e, a1, if_neg (by omega)]
    · by_cases e2 : g = 97
      · rw [e2, a2, if_neg (by omega)]
      · by_cases e3 : g = 201
        · rw [e3, a4]
          have np : ¬ c = p := by
            intro q
            subst q
            rcases hk with k | ⟨K, k1, -, k3⟩
            · exact k hp
            · exact ho K k1 k3
          have nl : ¬ (ls L).getLast? = some c := by
            intro q
            have q' := getq_last q
            rcases hk with k | ⟨K, k1, k2, k3⟩
            · exact k ((s.1 L hL).2.2.2 _ c q').1.2
            · obtain ⟨i, hi⟩ := List.getElem?_of_mem k3
              have := (s.2 _ _ _ _ _ hL k1 q' hi).1
              omega
          rw [if_neg np, if_neg nl]
        · exact f6 g c e e2 e3
theorem CSt.tak {L p : Nat} {r : List Nat} (s : lnS h ls) (f : FrLn h h1) (hL : isL h L) (hb : b ≤ L ∧ L < b + 65) (e : ls L = p :: r) (a : takS h h1 L p r) : CSt b ls h (updF ls L r) h1 := by
  obtain ⟨f0, f1, f2, f3, f4, f5, f6, f7, f8, f9⟩ := f
  obtain ⟨a1, a2, a3, a4⟩ := a
  have hp : (ls L)[0]? = some p := by rw [e]; rfl
  refine ⟨⟨⟨by rw [f0]; exact Nat.le_refl _, by rw [f0, f1], mdB.eq f0 (f4 167 b (by omega))⟩, fun c _ => ⟨f2 c, f3 c⟩, fun c hc hout hk => ⟨fun g => ⟨?_, f5 g c, ?_⟩, fun i => ⟨f7 c i, f8 c i, f9 c i⟩⟩⟩, fun K hK => updF_ne (by omega)⟩
  · by_cases e : g = 98
    · rw [e, a3, if_neg (by omega)]
    · exact f4 g c e
  · by_cases e : g = 96
    · rw [e, a1, if_neg (by omega)]
    · by_cases e2 : g = 97
      · rw [e2, a2, if_neg (by omega)]
      · by_cases e3 : g = 201
        · rw [e3, a4]
          have np : ¬ c = p := by
            intro q
            subst q
            rcases hk with k | ⟨K, k1, k2, k3⟩
            · exact k ((s.1 L hL).2.2.2 _ c hp).1.2
            · obtain ⟨i, hi⟩ := List.getElem?_of_mem k3
              have := (s.2 _ _ _ _ _ hL k1 hp hi).1
              omega
          rw [if_neg np]
        · exact f6 g c e e2 e3
/-- only a packet's own fields change -/
def FrPk (p : Nat) (h h1 : zH) : Prop := (zx h1 = zx h ∧ zt h1 = zt h) ∧ (∀ a, zk h1 a = zk h a ∧ zn h1 a = zn h a) ∧ (∀ f a, zr h1 f a = zr h f a) ∧ (∀ a i, zI h1 a i = zI h a i ∧ zL h1 a i = zL h a i ∧ zR h1 a i = zR h a i) ∧ (∀ f a, ¬ (192 ≤ f ∧ f ≤ 200 ∧ a = p) → zi h1 f a = zi h f a) ∧ (∀ f a, ¬ (f = 197 ∧ a = p) → zl h1 f a = zl h f a)
theorem FrPk.rf {p : Nat} : FrPk p h h := ⟨⟨rfl, rfl⟩, fun _ => ⟨rfl, rfl⟩, fun _ _ => rfl, fun _ _ => ⟨rfl, rfl, rfl⟩, fun _ _ _ => rfl, fun _ _ _ => rfl⟩
theorem FrPk.tr {p : Nat} {h2 : zH} (x : FrPk p h h1) (y : FrPk p h1 h2) : FrPk p h h2 :=
  ⟨⟨y.1.1.trans x.1.1, y.1.2.trans x.1.2⟩, fun a => ⟨(y.2.1 a).1.trans (x.2.1 a).1, (y.2.1 a).2.trans (x.2.1 a).2⟩, fun f a => (y.2.2.1 f a).trans (x.2.2.1 f a), fun a i => ⟨(y.2.2.2.1 a i).1.trans (x.2.2.2.1 a i).1, (y.2.2.2.1 a i).2.1.trans (x.2.2.2.1 a i).2.1, (y.2.2.2.1 a i).2.2.trans (x.2.2.2.1 a i).2.2⟩, fun f a q => (y.2.2.2.2.1 f a q).trans (x.2.2.2.2.1 f a q), fun f a q => (y.2.2.2.2.2 f a q).trans (x.2.2.2.2.2 f a q)⟩
theorem FrPk.si {p f : Nat} {v : Int32} (hf : 192 ≤ f ∧ f ≤ 200) : FrPk p h (zSi h f p v) := ⟨⟨rfl, rfl⟩, fun _ => ⟨rfl, rfl⟩, fun _ _ => rfl, fun _ _ => ⟨rfl, rfl, rfl⟩, fun g a q => by rw [zi_Si, if_neg (fun z => q ⟨by omega, by omega, z.2⟩)], fun _ _ _ => rfl⟩
theorem FrPk.sl {p : Nat} {v : Int64} : FrPk p h (zSl h 197 p v) := ⟨⟨rfl, rfl⟩, fun _ => ⟨rfl, rfl⟩, fun _ _ => rfl, fun _ _ => ⟨rfl, rfl, rfl⟩, fun _ _ _ => rfl, fun g a q => by rw [zl_Sl, if_neg q]⟩
theorem FrPk.st {p : Nat} (f : FrPk p h h1) (hp : zk h p = 6) (ho : outL h ls p) : CSt b ls h ls h1 := by
  obtain ⟨⟨f0, f1⟩, f2, f3, f4, f5, f6⟩ := f
  refine ⟨⟨⟨by rw [f0]; exact Nat.le_refl _, by rw [f0, f1], mdB.eq f0 (f5 167 b (by omega))⟩, fun c _ => f2 c, fun c hc hout hk => ?_⟩, fun _ _ => rfl⟩
  have np : ¬ c = p := by
    intro q
    subst q
    rcases hk with k | ⟨K, k1, -, k3⟩
    · exact k hp
    · exact ho K k1 k3
  exact ⟨fun g => ⟨f5 g c (fun q => np q.2.2), f6 g c (fun q => np q.2), f3 g c⟩, f4 c⟩
/-- the parts of a net that no packet's field touches -/
theorem pk_NLF {p : Nat} (f : FrPk p h h1) (n : NtC h b N) (k : LkC h b N) (g : FlC h b N) (e : ∀ k, k < 368 → nA N' k = nA N k) : NtC h1 b N' ∧ LkC h1 b N' ∧ FlC h1 b N' := by
  obtain ⟨-, f2, f3, f4, f5, f6⟩ := f
  refine ⟨?_, fun a ha a6 => ?_, fun d hd d6 => ?_⟩
  · obtain ⟨n1, n2, n3, n4, n5⟩ := n
    refine ⟨?_, ?_, ?_, ?_, ?_⟩
    · rw [f5 _ _ (by omega), e _ (by omega)]; exact n1
    · rw [f5 _ _ (by omega), e _ (by omega)]; exact n2
    · rw [f5 _ _ (by omega), e _ (by omega)]; exact n3
    · rw [f5 _ _ (by omega), e _ (by omega)]; exact n4
    · rw [f5 _ _ (by omega), e _ (by omega)]; exact n5
  · rw [e _ (by omega)] at ha
    exact (k a ha a6).congr (fun j hj => by have := lkF_bd hj; exact f5 _ _ (by omega)) (f6 _ _ (by omega)) (fun j _ _ => f6 _ _ (by omega)) (fun _ _ _ _ => (f4 _ _).1) (fun k _ _ => e k (by omega))
  · rw [e _ (by omega)] at hd
    exact (g d hd d6).congr (fun j hj => f5 _ _ (by omega)) (fun _ => (f4 _ _).1) (fun k _ _ => e k (by omega)) (fun k _ => e _ (by omega))
theorem EvC.fr {E : List (Int × Int × Int × Int)} (c : EvC h b E) (e36 : zi h1 36 (b + 5) = zi h 36 (b + 5)) (e37 : zi h1 37 (b + 5) = zi h 37 (b + 5)) (eI : ∀ a i, b + 5 < a → a ≤ b + 10 → zI h1 a i = zI h a i) : EvC h1 b E := by
  obtain ⟨s, q1, q2, q3, q4⟩ := c
  refine ⟨s, q1, by rw [e36]; exact q2, by rw [e37]; exact q3, fun i u hu => ?_⟩
  rw [eI _ _ (by omega) (by omega), eI _ _ (by omega) (by omega), eI _ _ (by omega) (by omega), eI _ _ (by omega) (by omega)]
  exact q4 i u hu
theorem PaC.fr {P : List (Nat → Int)} {n : Int} (c : PaC h b P n t) (eI : ∀ a i, b + 5 < a → a ≤ b + 10 → zI h1 a i = zI h a i) : PaC h1 b P n t := ⟨c.1, fun i q hq g hg => by rw [eI _ _ (by omega) (by omega)]; exact c.2 i q hq g hg⟩
/-- a packet under way is changed -/
theorem CX.pk {x : Nat} (c : CX h b π ls N (x :: X) t) (hx : liv N x) (nx : ∀ a, a < 6 → ¬ x ∈ nR N a ∧ ¬ x ∈ nW N a) (nk : ¬ x ∈ nK N) (f : FrPk (π x) h h1) (e : ∀ k, (k < (368 + 8 * x + 0) ∨ (368 + 8 * x + 8) ≤ k) → nA N' k = nA N k) (eR : nR N' = nR N) (eW : nW N' = nW N) (eK : nK N' = nK N) (eE : nE N' = nE N) (eP : nP N' = nP N) (e0 : 0 < nA N' ((368 + 8 * x + 0))) (P : PkC h1 N' (π x) x) : CX h1 b π ls N' (x :: X) t ∧ CSt b ls h ls h1 := by
  obtain ⟨c1, c2, c3, c4, c5, c6, c7, c8⟩ := c
  obtain ⟨p1, p2, p3, p4, p5, p6, p7, p8⟩ := c6
  have F := f
  obtain ⟨⟨f0, f1⟩, f2, f3, f4, f5, f6⟩ := f
  have lv : ∀ y, liv N' y → liv N y := fun y hy => by
    by_cases q : y = x
    · rw [q]; exact hx
    · unfold liv at *; rw [← e _ (by omega)]; exact hy
  have ne : ∀ y, liv N y → y ≠ x → π y ≠ π x := fun y hy q g => q (p2 y x hy hx g)
  have K := pk_NLF (N' := N') F c3 c4 c5 (fun k hk => e k (by omega))
  have memlv : ∀ y a, a < 6 → y ∈ nR N a ∨ y ∈ nW N a → y ≠ x := fun y a ha q g => by subst g; rcases q with q | q; exact (nx a ha).1 q; exact (nx a ha).2 q
  have pne : ∀ y, y ≠ x → (∃ L, isL h L ∧ π y ∈ ls L) → π y ≠ π x := fun y _ ⟨L, h3, h4⟩ g => (p6 x List.mem_cons_self) L h3 (g ▸ h4)
  have iR : ∀ a, a < 6 → isL h (b + 11 + 7 * a + 1) := fun a ha => ⟨by have := c1.1.1; omega, (c1.2.2.2.2.2.2.2.2.1 a ha).2.2.1.2⟩
  have iW : ∀ a, a < 6 → isL h (b + 11 + 7 * a + 2) := fun a ha => ⟨by have := c1.1.1; omega, (c1.2.2.2.2.2.2.2.2.1 a ha).2.2.2.1.2⟩
  have iK : isL h (b + 3) := ⟨by have := c1.1.1; omega, c1.2.2.2.1.2⟩
  refine ⟨⟨c1.fr (by rw [f0]; exact Nat.le_refl _) (fun a _ _ => ⟨(f2 a).1, (f2 a).2, fun q _ _ _ => f3 q a, fun i => (f4 a i).2.2⟩), c2.fr f0 (fun a => (f2 a).1) f3 (fun a => f5 98 a (by omega)), K.1, K.2.1, K.2.2, ⟨fun y hy => ?_, fun y z hy hz => p2 y z (lv y hy) (lv z hz), fun y hy => p3 y (lv y hy), fun a ha => ?_, ?_, fun y hy => (p6 y hy).fr f0 (fun a => (f2 a).1), ?_⟩, ?_, ?_⟩, F.st (p1 x hx).2.2 (p6 x List.mem_cons_self)⟩
  · by_cases q : y = x
    · subst q
      exact ⟨P, by rw [f0]; exact (p1 y hx).2.1, by rw [(f2 _).1]; exact (p1 y hx).2.2⟩
    · obtain ⟨q1, q2, q3⟩ := p1 y (lv y hy)
      have n := ne y (lv y hy) q
      exact ⟨q1.congr (fun g h1 h2 => f5 g _ (by omega)) (f6 _ _ (by omega)) (fun k h1 h2 => e k (by omega)), by rw [f0]; exact q2, by rw [(f2 _).1]; exact q3⟩
  · obtain ⟨q1, q2, q3, q4⟩ := p4 a ha
    rw [eR, eW]
    refine ⟨q1, q2, fun y hy => ?_, fun y hy => ?_⟩
    · have d := memlv y a ha (Or.inl hy)
      have n := pne y d ⟨_, iR a ha, by rw [q1]; exact List.mem_map_of_mem hy⟩
      rw [f5 _ _ (fun g => n g.2.2), e _ (by omega), e _ (by omega)]; exact q3 y hy
    · have d := memlv y a ha (Or.inr hy)
      have n := pne y d ⟨_, iW a ha, by rw [q2]; exact List.mem_map_of_mem hy⟩
      rw [f5 _ _ (fun g => n g.2.2), f5 _ _ (fun g => n g.2.2), e _ (by omega), e _ (by omega), e _ (by omega)]; exact q4 y hy
  · rw [eK]
    refine ⟨p5.1, fun y hy => ?_⟩
    have d : y ≠ x := fun g => nk (g ▸ hy)
    have n := pne y d ⟨_, iK, by rw [p5.1]; exact List.mem_map_of_mem hy⟩
    rw [f5 _ _ (fun g => n g.2.2), e _ (by omega)]; exact p5.2 y hy
  · rw [f5 _ _ (by omega), show nLv N' = nLv N from ?_]
    · exact ⟨p7, p8.1, fun y hy => by
        by_cases q : y = x
        · subst q; omega
        · rw [e _ (by omega)]; exact p8.2 y hy⟩
    · unfold nLv
      apply List.countP_congr
      intro y hy
      by_cases q : y = x
      · subst q
        rw [decide_eq_true e0, decide_eq_true hx.2]
      · rw [e _ (by omega)]
  · rw [eE]
    exact c7.fr (f5 _ _ (by omega)) (f5 _ _ (by omega)) (fun a i _ _ => (f4 a i).1)
  · rw [eP, e 1 (by omega)]
    exact c8.fr (fun a i _ _ => (f4 a i).1)
end CX5
