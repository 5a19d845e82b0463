section CX3
variable {h h' : zH} {b : Nat} {π : Nat → Nat} {ls : Nat → List Nat} {N N' : nT} {X : List Nat} {t : Nat}
def FrSc (b : Nat) (h h' : zH) : Prop := (zx h' = zx h ∧ zt h' = zt h) ∧ (∀ a, zk h' a = zk h a ∧ zn h' a = zn h a) ∧ (∀ f a, zr h' f a = zr h f a) ∧ (∀ a i, zR h' a i = zR h a i ∧ zL h' a i = zL h a i) ∧ (∀ f a, f = 98 ∨ (192 ≤ f ∧ f ≤ 200) ∨ f = 36 ∨ f = 37 ∨ f = 167 → zi h' f a = zi h f a) ∧ (∀ a, zl h' 197 a = zl h 197 a) ∧ (∀ a i, b + 5 < a → a ≤ b + 10 → zI h' a i = zI h a i) ∧ ∀ a, (a < b ∨ b + 65 ≤ a) → (∀ f, zi h' f a = zi h f a ∧ zl h' f a = zl h f a) ∧ ∀ i, zI h' a i = zI h a i
theorem FrSc.rf : FrSc b h h := ⟨⟨rfl, rfl⟩, fun _ => ⟨rfl, rfl⟩, fun _ _ => rfl, fun _ _ => ⟨rfl, rfl⟩, fun _ _ _ => rfl, fun _ => rfl, fun _ _ _ _ => rfl, fun _ _ => ⟨fun _ => ⟨rfl, rfl⟩, fun _ => rfl⟩⟩
theorem FrSc.tr {h2 : zH} (x : FrSc b h h') (y : FrSc b h' h2) : FrSc b h h2 :=
  ⟨⟨y.1.1.trans x.1.1, y.1.2.trans x.1.2⟩, fun a => ⟨(y.2.1 a).1.trans (x.2.1 a).1, (y.2.1 a).2.trans (x.2.1 a).2⟩, fun f a => (y.2.2.1 f a).trans (x.2.2.1 f a), fun a i => ⟨(y.2.2.2.1 a i).1.trans (x.2.2.2.1 a i).1, (y.2.2.2.1 a i).2.trans (x.2.2.2.1 a i).2⟩, fun f a q => (y.2.2.2.2.1 f a q).trans (x.2.2.2.2.1 f a q), fun a => (y.2.2.2.2.2.1 a).trans (x.2.2.2.2.2.1 a), fun a i p q => (y.2.2.2.2.2.2.1 a i p q).trans (x.2.2.2.2.2.2.1 a i p q), fun a q => ⟨fun f => ⟨((y.2.2.2.2.2.2.2 a q).1 f).1.trans ((x.2.2.2.2.2.2.2 a q).1 f).1, ((y.2.2.2.2.2.2.2 a q).1 f).2.trans ((x.2.2.2.2.2.2.2 a q).1 f).2⟩, fun i => ((y.2.2.2.2.2.2.2 a q).2 i).trans ((x.2.2.2.2.2.2.2 a q).2 i)⟩⟩
theorem FrSc.si {f a : Nat} {v : Int32} (ha : b ≤ a ∧ a < b + 65) (hf : ¬ (f = 98 ∨ (192 ≤ f ∧ f ≤ 200) ∨ f = 36 ∨ f = 37 ∨ f = 167)) : FrSc b h (zSi h f a v) :=
  ⟨⟨rfl, rfl⟩, fun _ => ⟨rfl, rfl⟩, fun _ _ => rfl, fun _ _ => ⟨rfl, rfl⟩, fun g c q => by rw [zi_Si, if_neg (fun z => by omega)], fun _ => rfl, fun _ _ _ _ => rfl, fun c q => ⟨fun g => ⟨by rw [zi_Si, if_neg (fun z => by omega)], rfl⟩, fun _ => rfl⟩⟩
theorem FrSc.sl {f a : Nat} {v : Int64} (ha : b ≤ a ∧ a < b + 65) (hf : f ≠ 197) : FrSc b h (zSl h f a v) :=
  ⟨⟨rfl, rfl⟩, fun _ => ⟨rfl, rfl⟩, fun _ _ => rfl, fun _ _ => ⟨rfl, rfl⟩, fun g c q => rfl, fun c => by rw [zl_Sl, if_neg (fun z => hf z.1.symm)], fun _ _ _ _ => rfl, fun c q => ⟨fun g => ⟨rfl, by rw [zl_Sl, if_neg (fun z => by omega)]⟩, fun _ => rfl⟩⟩
theorem FrSc.sI {a i : Nat} {v : Int32} (ha : b + 10 < a ∧ a < b + 65) : FrSc b h (zSI h a i v) :=
  ⟨⟨rfl, rfl⟩, fun _ => ⟨rfl, rfl⟩, fun _ _ => rfl, fun _ _ => ⟨rfl, rfl⟩, fun g c q => rfl, fun c => rfl, fun c j p q => by rw [zI_SI, if_neg (fun z => by omega)], fun c q => ⟨fun g => ⟨rfl, rfl⟩, fun j => by rw [zI_SI, if_neg (fun z => by omega)]⟩⟩
theorem FrSc.sF {a : Nat} {g : Nat → Int32} (ha : b + 10 < a ∧ a < b + 65) : FrSc b h (zSF h a g) :=
  ⟨⟨rfl, rfl⟩, fun _ => ⟨rfl, rfl⟩, fun _ _ => rfl, fun _ _ => ⟨rfl, rfl⟩, fun g c q => rfl, fun c => rfl, fun c j p q => by rw [zI_SF, if_neg (by omega)], fun c q => ⟨fun g => ⟨rfl, rfl⟩, fun j => by rw [zI_SF, if_neg (by omega)]⟩⟩
theorem FrSc.st (f : FrSc b h h') : CSt b ls h ls h' :=
  ⟨⟨⟨by rw [f.1.1]; exact Nat.le_refl _, by rw [f.1.1, f.1.2], mdB.eq f.1.1 (f.2.2.2.2.1 167 b (by omega))⟩, fun a _ => f.2.1 a, fun a _ ho _ => ⟨fun g => ⟨((f.2.2.2.2.2.2.2 a ho).1 g).1, ((f.2.2.2.2.2.2.2 a ho).1 g).2, f.2.2.1 g a⟩, fun i => ⟨(f.2.2.2.2.2.2.2 a ho).2 i, (f.2.2.2.1 a i).2, (f.2.2.2.1 a i).1⟩⟩⟩, fun _ _ => rfl⟩
theorem partN_congr {x : Nat} (e3 : nA N' ((368 + 8 * x + 3)) = nA N ((368 + 8 * x + 3))) (e4 : nA N' ((368 + 8 * x + 4)) = nA N ((368 + 8 * x + 4))) : partN N' x = partN N x := by unfold partN; rw [e3, e4]
theorem nLv_congr (e : ∀ x, x < 480 → nA N' ((368 + 8 * x + 0)) = nA N ((368 + 8 * x + 0))) : nLv N' = nLv N := by
  unfold nLv
  apply List.countP_congr
  intro x hx
  rw [e x (List.mem_range.mp hx)]
theorem PkC.congr {p x : Nat} (c : PkC h N p x) (ei : ∀ f, 192 ≤ f → f ≤ 200 → zi h' f p = zi h f p) (el : zl h' 197 p = zl h 197 p) (e : ∀ k, (368 + 8 * x + 0) ≤ k → k < (368 + 8 * x + 8) → nA N' k = nA N k) : PkC h' N' p x := by
  obtain ⟨c1, c2, c3, c4, c5, c6, c7⟩ := c
  refine ⟨?_, ?_, ?_, ?_, ?_, ?_, ?_⟩
  · rw [ei _ (by omega) (by omega), e _ (by omega) (by omega)]; exact c1
  · rw [ei _ (by omega) (by omega), e _ (by omega) (by omega)]; exact c2
  · rw [ei _ (by omega) (by omega), e _ (by omega) (by omega)]; exact c3
  · rw [ei _ (by omega) (by omega), e _ (by omega) (by omega)]; exact c4
  · rw [el, partN_congr (e _ (by omega) (by omega)) (e _ (by omega) (by omega))]; exact c5
  · rw [ei _ (by omega) (by omega), e _ (by omega) (by omega)]; exact c6
  · rw [ei _ (by omega) (by omega), e _ (by omega) (by omega)]; exact c7
theorem lnS.fr (s : lnS h ls) (ex : zx h' = zx h) (ek : ∀ a, zk h' a = zk h a) (er : ∀ f a, zr h' f a = zr h f a) (ei : ∀ a, zi h' 98 a = zi h 98 a) : lnS h' ls := by
  have i : ∀ L, isL h' L ↔ isL h L := fun L => by unfold isL; rw [ex, ek]
  refine ⟨fun L hL => ?_, fun L K i' j q hL hK => s.2 L K i' j q ((i L).mp hL) ((i K).mp hK)⟩
  obtain ⟨s1, s2, s3, s4⟩ := s.1 L ((i L).mp hL)
  rw [er, er, ei]
  exact ⟨s1, s2, s3, fun j p hp => by rw [ex, ek, er]; exact s4 j p hp⟩
theorem outL.fr {p : Nat} (s : outL h ls p) (ex : zx h' = zx h) (ek : ∀ a, zk h' a = zk h a) : outL h' ls p := fun L hL => s L (by unfold isL at *; rw [← ex, ← ek]; exact hL)
theorem CX.scal (c : CX h b π ls N X t) (f : FrSc b h h') (e : ∀ k, 368 ≤ k → nA N' k = nA N k) (e1 : nA N' 1 = nA N 1) (eR : nR N' = nR N) (eW : nW N' = nW N) (eK : nK N' = nK N) (eE : nE N' = nE N) (eP : nP N' = nP N) (n : NtC h' b N') (k : LkC h' b N') (g : FlC h' b N') : CX h' b π ls N' X t := by
  obtain ⟨c1, c2, c3, c4, c5, c6, c7, c8⟩ := c
  obtain ⟨⟨f0, -⟩, f1, f2, f3, f4, f5, f6, f7⟩ := f
  have lv : ∀ x, liv N' x → liv N x := fun x hx => by unfold liv at *; rw [← e _ (by omega)]; exact hx
  refine ⟨c1.fr (by rw [f0]; exact Nat.le_refl _) (fun a _ _ => ⟨(f1 a).1, (f1 a).2, fun q _ _ _ => f2 q a, fun i => (f3 a i).1⟩), c2.fr f0 (fun a => (f1 a).1) f2 (fun a => f4 98 a (by omega)), n, k, g, ?_, ?_, ?_⟩
  · obtain ⟨p1, p2, p3, p4, p5, p6, p7⟩ := c6
    refine ⟨fun x hx => ?_, fun x y hx hy => p2 x y (lv x hx) (lv y hy), fun x hx => p3 x (lv x hx), fun a ha => ?_, ?_, fun x hx => (p6 x hx).fr f0 (fun a => (f1 a).1), ?_⟩
    · obtain ⟨q1, q2, q3⟩ := p1 x (lv x hx)
      exact ⟨q1.congr (fun q h1 h2 => f4 q _ (by omega)) (f5 _) (fun k h1 h2 => e k (by omega)), by rw [f0]; exact q2, by rw [(f1 _).1]; exact q3⟩
    · obtain ⟨q1, q2, q3, q4⟩ := p4 a ha
      rw [eR, eW]
      refine ⟨q1, q2, fun x hx => ?_, fun x hx => ?_⟩
      · rw [f4 _ _ (by omega), e _ (by omega), e _ (by omega)]; exact q3 x hx
      · rw [f4 _ _ (by omega), f4 _ _ (by omega), e _ (by omega), e _ (by omega), e _ (by omega)]; exact q4 x hx
    · rw [eK]
      refine ⟨p5.1, fun x hx => ?_⟩
      rw [f4 _ _ (by omega), e _ (by omega)]; exact p5.2 x hx
    · rw [f4 _ _ (by omega), nLv_congr (N' := N') (N := N) (fun x _ => e _ (by omega))]
      exact ⟨p7.1, p7.2.1, fun x hx => by rw [e _ (by omega)]; exact p7.2.2 x hx⟩
  · rw [eE]
    obtain ⟨s, q1, q2, q3, q4⟩ := c7
    refine ⟨s, q1, by rw [f4 _ _ (by omega)]; exact q2, by rw [f4 _ _ (by omega)]; exact q3, fun i u hu => ?_⟩
    rw [f6 _ _ (by omega) (by omega), f6 _ _ (by omega) (by omega), f6 _ _ (by omega) (by omega), f6 _ _ (by omega) (by omega)]
    exact q4 i u hu
  · rw [eP, e1]
    refine ⟨c8.1, fun i q hq g hg => ?_⟩
    rw [f6 _ _ (by omega) (by omega)]
    exact c8.2 i q hq g hg
theorem LkA.congr {a : Nat} (c : LkA h b N a) (ei : ∀ j, lkJ j → zi h' (lkF j) (b + 11 + 7 * a) = zi h (lkF j) (b + 11 + 7 * a)) (e6 : zl h' 136 (b + 11 + 7 * a) = zl h 136 (b + 11 + 7 * a)) (el : ∀ j, 8 ≤ j → j < 14 → zl h' (216 + j) (b + 11 + 7 * a + 6) = zl h (216 + j) (b + 11 + 7 * a + 6)) (eI : ∀ d f, 3 ≤ d → d < 6 → zI h' (b + 11 + 7 * a + d) f = zI h (b + 11 + 7 * a + d) f) (e : ∀ k, (8 + 40 * a + 0) ≤ k → k < (8 + 40 * a + 40) → nA N' k = nA N k) : LkA h' b N' a := by
  obtain ⟨c1, c2, c3, c4⟩ := c
  refine ⟨fun j hj => ?_, ?_, fun j h8 h14 => ?_, fun f hf => ?_⟩
  · have hj40 : j < 40 := by unfold lkJ at hj; omega
    rw [ei j hj, e _ (by omega) (by omega)]; exact c1 j hj
  · rw [e6, e _ (by omega) (by omega)]; exact c2
  · rw [el j h8 h14, e _ (by omega) (by omega)]; exact c3 j h8 h14
  · rw [eI 3 f (by omega) (by omega), eI 4 f (by omega) (by omega), eI 5 f (by omega) (by omega), e _ (by omega) (by omega), e _ (by omega) (by omega), e _ (by omega) (by omega)]; exact c4 f hf
theorem backN_same {f : Nat} (e0 : nA N' ((248 + 20 * f + 0)) = nA N ((248 + 20 * f + 0))) (e12 : ∀ i : Nat, (i : Int) < nA N ((248 + 20 * f + 0)) → nA N' ((248 + 20 * f + (12 + i))) = nA N ((248 + 20 * f + (12 + i)))) (h6 : ∀ i : Nat, (i : Int) < nA N ((248 + 20 * f + 0)) → hopN N f i < 6) (el : ∀ c, c < 6 → nA N' ((8 + 40 * c + 1)) = nA N ((8 + 40 * c + 1))) : backN N' f = backN N f ∧ ∀ i : Nat, (i : Int) < nA N ((248 + 20 * f + 0)) → hopN N' f i = hopN N f i := by
  have hp : ∀ i : Nat, (i : Int) < nA N ((248 + 20 * f + 0)) → hopN N' f i = hopN N f i := fun i hi => by unfold hopN; rw [e12 i hi]
  refine ⟨?_, hp⟩
  unfold backN
  rw [e0]
  congr 1
  apply List.map_congr_left
  intro i hi
  have hi' := List.mem_range.mp hi
  rw [hp i (by omega), el _ (h6 i (by omega))]
theorem FlA.congr {f : Nat} (c : FlA h b N f) (ei : ∀ j, j < 11 → zi h' (65 + j) (b + 53 + 2 * f) = zi h (65 + j) (b + 53 + 2 * f)) (eI : ∀ i, zI h' (b + 53 + 2 * f + 1) i = zI h (b + 53 + 2 * f + 1) i) (e : ∀ k, (248 + 20 * f + 0) ≤ k → k < (248 + 20 * f + 20) → nA N' k = nA N k) (el : ∀ c, c < 6 → nA N' ((8 + 40 * c + 1)) = nA N ((8 + 40 * c + 1))) : FlA h' b N' f := by
  obtain ⟨c1, c2, c3, c4⟩ := c
  have e0 : nA N' ((248 + 20 * f + 0)) = nA N ((248 + 20 * f + 0)) := e _ (by omega) (by omega)
  have B := backN_same (N := N) (N' := N') e0 (fun i hi => e _ (by omega) (by omega)) (fun i hi => (c4 i hi).2) el
  refine ⟨fun j hj h4 => ?_, ?_, by rw [e0]; exact c3, fun i hi => ?_⟩
  · rw [ei j hj, e _ (by omega) (by omega)]; exact c1 j hj h4
  · rw [B.1]; exact (ei 4 (by omega)).trans c2
  · rw [e0] at hi
    rw [eI, e _ (by omega) (by omega), B.2 i hi]; exact c4 i hi
theorem lkF_inj {i j : Nat} (hi : lkJ i) (hj : lkJ j) (e : lkF i = lkF j) : i = j := by unfold lkJ at hi hj; unfold lkF at e; split at e <;> split at e <;> omega
theorem lkF_bd {j : Nat} (hj : lkJ j) : 128 ≤ lkF j ∧ lkF j < 145 := by unfold lkJ at hj; unfold lkF; split <;> omega
end CX3
