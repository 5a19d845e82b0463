section ZG3
variable {l : Launch} {w : zW} {M : zMe} {pc : Nat} {lv : List (Nat × Value)} {rest : List Value} {h : zH} {Q : Option Value → zH → Prop}
theorem g_areturn {v : Value} {rt : FieldType} (hd : decode M.2.1 pc = .ok (.areturn, 1)) (hr : M.2.2.2.1 = some rt) (hrt : (∃ n, rt = .object n) ∨ ∃ t, rt = .array t) (hv : v = .null ∨ ∃ a, v = .ref a) (hQ : Q (some v) h) : zG l w M pc lv [v] h Q :=
  zx_ret (fun C hq hf => W.aret C.1 C.2.1 (by rw [C.2.2.2.1]; exact hr) hrt hv hq hf hd C.2.2.2.2.1) hQ
/-- a row that changes the heap and makes no cell -/
theorem zG.chg {pc2 : Nat} {lv2 : List (Nat × Value)} {st st2 : List Value} {h2 : zH} (hx : zx h2 = zx h) (ht : zt h2 = zt h)
    (hW : ∀ {p : Program} {e : Env} {s : State} {m : MethodId} {args : Array Value} {below : List Frame} {meth : Method} {c : Code} {cells0 slots0 : Nat} {H : Heap} {ls : Array Slot} {locs : List Loc} {cells slots : Nat} {Qf : State → Prop}, zCtx w M p s m args meth c → zRel w s h H → lv_has ls M.2.2.1 lv →
      (∀ (H2 : Heap) (locs2 : List Loc) (ls2 : Array Slot), zRel w s h2 H2 → (∀ q : Nat, q < w.2.2.1 → H2[q]? = H[q]?) → ((∀ q ∈ locs, w.2.2.1 ≤ q.base) → ∀ q ∈ locs2, w.2.2.1 ≤ q.base) → lv_has ls2 M.2.2.1 lv2 → W p l e (zRm M cells0 slots0) s m args below meth c H2 locs2 cells slots Qf (F0 m pc2 ls2 st2)) → W p l e (zRm M cells0 slots0) s m args below meth c H locs cells slots Qf (F0 m pc ls st))
    (k : zG l w M pc2 lv2 st2 h2 Q) : zG l w M pc lv st h Q := by
  obtain ⟨v, h', ⟨k1, k2, k3⟩, k4⟩ := k
  rw [hx] at k1
  rw [ht] at k2
  refine ⟨v, h', ⟨k1, k2, fun p e s m args below meth c x0 t0 H ls locs C A => ?_⟩, k4⟩
  obtain ⟨a1, a2, a3, a4, a5, a6⟩ := A
  refine hW C a1 a4 fun H2 locs2 ls2 r2 e2 g2 h2 => ?_
  have := k3 p e s m args below meth c x0 t0 H2 ls2 locs2 C ⟨r2, fun q hq => (e2 q hq).trans (a2 q hq), g2 a3, h2, by rw [hx]; exact a5, by rw [ht]; exact a6⟩
  rw [hx, ht] at this
  exact this
/-! what a class's words say -/
def zCls (ci : Nat) (C : String) (T : u_T) (N : Nat) (ty0 : Nat → FieldType) : Prop := vwCl[ci]? = some (C, T, N) ∧ (∀ x ∈ u_ws C T N, x ∈ lw_all) ∧ (∀ k, k < N → parseFieldDescriptor (T k).2.2.1 = some (ty0 k)) ∧ (∀ a, a < N → ∀ b, b < N → a ≠ b → (T a).2.1 ≠ (T b).2.1)
def zFT (tc : Nat) (ty : FieldType) : Prop := (tc = 0 ∧ ty = .int) ∨ (tc = 1 ∧ ty = .long) ∨ (tc = 3 ∧ ty = .boolean) ∨ (tc = 2 ∧ ((∃ n, ty = .object n) ∨ ∃ t, ty = .array t))
def zFld (own : String) (idx ci k tc : Nat) (fin : Bool) : Prop := ∃ (C : String) (T : u_T) (N : Nat) (ty0 : Nat → FieldType), zCls ci C T N ty0 ∧ k < N ∧ Cond.fieldLink own idx (T k).1 (T k).2.1 (T k).2.2.1 ∈ lw_all ∧ (T k).2.2.2 = fin ∧ ztc ci k = tc ∧ zFT tc (ty0 k) ∧ (T k).1 = C
theorem z_get {idx ci k tc a : Nat} {fin : Bool} (hd : decode M.2.1 pc = .ok (.getfield idx, 3)) (hF : zFld M.1.cls idx ci k tc fin) (hk : zk h a = ci) (kk : zG l w M (pc + 3) lv (zval tc h (32 * ci + k) a :: rest) h Q) : zG l w M pc lv (.ref a :: rest) h Q := by
  refine zG.go (fun C r h1 kk => ?_) kk
  obtain ⟨C0, T, N, ty0, ⟨c1, c2, c3, c4⟩, f1, f2, f3, f4, f5, f6⟩ := hF
  subst hk
  obtain ⟨x1, x2, x3, x4, x5, x6, x7, hts, hK⟩ := C
  obtain ⟨hB, cell, q1, q2, q3, q4⟩ := r.2.2.1 a _ c1
  obtain ⟨hS, hfc, kC, hkC, hkind⟩ := hK.1.1 _ _ c1
  obtain ⟨cf, kf, fi, f, hi, hsl⟩ := hS k f1
  refine W.getf x1 x2 x6 (hts _ f2) hi (u_facts hfc hkC (u_lays hts c2 f1) hi).1 q1 (by rw [q3]; exact fun h => by cases h) ?_ rfl rfl hd (kk _ h1)
  rw [hsl, q4 k f1]
  show some (zval (ztc (zk h a) k) h _ a) = _
  rw [f4]
theorem g_geti {idx ci k tc f a : Nat} {fin : Bool} (hd : decode M.2.1 pc = .ok (.getfield idx, 3)) (hF : zFld M.1.cls idx ci k tc fin) (hk : zk h a = ci) (ht : tc ≠ 1 ∧ tc ≠ 2) (hf : 32 * ci + k = f) (kk : zG l w M (pc + 3) lv (.int (zi h f a) :: rest) h Q) : zG l w M pc lv (.ref a :: rest) h Q := by
  subst hf
  refine z_get hd hF hk ?_
  rw [zval, if_neg ht.1, if_neg ht.2]
  exact kk
theorem g_getl {idx ci k f a : Nat} {fin : Bool} (hd : decode M.2.1 pc = .ok (.getfield idx, 3)) (hF : zFld M.1.cls idx ci k 1 fin) (hk : zk h a = ci) (hf : 32 * ci + k = f) (kk : zG l w M (pc + 3) lv (.long (zl h f a) :: rest) h Q) : zG l w M pc lv (.ref a :: rest) h Q := by
  subst hf
  exact z_get hd hF hk kk
theorem g_getr {idx ci k f a b : Nat} {fin : Bool} (hd : decode M.2.1 pc = .ok (.getfield idx, 3)) (hF : zFld M.1.cls idx ci k 2 fin) (hk : zk h a = ci) (hf : 32 * ci + k = f) (hv : zr h f a = some b) (kk : zG l w M (pc + 3) lv (.ref b :: rest) h Q) : zG l w M pc lv (.ref a :: rest) h Q := by
  subst hf
  refine z_get hd hF hk ?_
  show zG l w M (pc + 3) lv (va_rf (zr h _ a) :: rest) h Q
  rw [hv]
  exact kk
theorem g_getrN {idx ci k f a : Nat} {fin : Bool} (hd : decode M.2.1 pc = .ok (.getfield idx, 3)) (hF : zFld M.1.cls idx ci k 2 fin) (hk : zk h a = ci) (hf : 32 * ci + k = f) (hv : zr h f a = none) (kk : zG l w M (pc + 3) lv (.null :: rest) h Q) : zG l w M pc lv (.ref a :: rest) h Q := by
  subst hf
  refine z_get hd hF hk ?_
  show zG l w M (pc + 3) lv (va_rf (zr h _ a) :: rest) h Q
  rw [hv]
  exact kk
theorem zcl_no {t : Nat} {r : vw_C} {k : Nat} (h1 : vwCl[k]? = some r) (h2 : k = 20 + t) : False := by
  have := zcl_lt h1
  omega
/-- the machine's store, seen in the functions -/
theorem z_put {idx ci k tc a : Nat} {fin : Bool} {v : Value} {h2 : zH} (hd : decode M.2.1 pc = .ok (.putfield idx, 3)) (hF : zFld M.1.cls idx ci k tc fin) (hk : zk h a = ci) (hfin : fin = false ∨ (M.1.name = "<init>" ∧ (∀ C T N, vwCl[ci]? = some (C, T, N) → M.1.cls = C)))
    (hn : ∀ ty, zFT tc ty → narrow ty v = v ∧ fits ty v = true) (hx : zx h2 = zx h) (ht : zt h2 = zt h) (hkk : ∀ b, zk h2 b = zk h b)
    (hs : ∀ b, b ≠ a → (∀ f, zi h2 f b = zi h f b) ∧ (∀ f, zl h2 f b = zl h f b) ∧ (∀ f, zr h2 f b = zr h f b) ∧ (∀ i, zI h2 b i = zI h b i) ∧ (∀ i, zL h2 b i = zL h b i) ∧ (∀ i, zR h2 b i = zR h b i) ∧ zn h2 b = zn h b)
    (hv : zval tc h2 (32 * ci + k) a = v) (ho : ∀ j, j ≠ k → ∀ t, zval t h2 (32 * ci + j) a = zval t h (32 * ci + j) a)
    (kk : zG l w M (pc + 3) lv rest h2 Q) : zG l w M pc lv (v :: .ref a :: rest) h Q := by
  refine zG.chg hx ht (fun {p} {e} {s} {m} {args} {below} {meth} {c} {c0} {s0} {H} {ls} {locs} {cells} {slots} {Qf} C r h1 kk => ?_) kk
  obtain ⟨C0, T, N, ty0, ⟨c1, c2, c3, c4⟩, f1, f2, f3, f4, f5, f6⟩ := hF
  subst hk
  obtain ⟨x1, x2, x3, x4, x5, x6, x7, hts, hK⟩ := C
  obtain ⟨hB, cell, q1, q2, q3, q4⟩ := r.2.2.1 a _ c1
  have hap := va_apart (own := M.1.cls) hts c2 ty0 c3 c4 hK.1 c1
  obtain ⟨hS, hfc, kC, hkC, hkind⟩ := hK.1.1 _ _ c1
  obtain ⟨cf, kf, fi, f, hi, hsl⟩ := hS k f1
  obtain ⟨hn1, hn2⟩ := hn _ f5
  have hlay := u_lays hts c2 f1
  have hst := (u_facts hfc hkC hlay hi).1
  have key : ∀ H' : Heap, H'[a]? = some (cell.setSlot f.slot v) → H'.size = H.size → (∀ q, q ≠ a → H'[q]? = H[q]?) → zRel w s h2 H' := by
    intro H' e1 e2 e3
    rw [hsl] at e1
    refine r.set hB e2 e3 hx hkk hs ?_ (fun t ty q _ => (zcl_no c1 q).elim)
    intro r0 hr0
    have hr1 := Option.some.inj (c1.symm.trans hr0)
    subst hr1
    refine t_OB.to (V := updV (fun k => zval (ztc (zk h a) k) h (32 * zk h a + k) a) k v) ⟨_, e1, q2, q3, t_set q4 hap f1 v⟩ fun j hj => ?_
    by_cases e : j = k
    · subst e
      simp only [updV, if_pos rfl]
      rw [f4]
      exact hv.symm
    · simp only [updV, if_neg e]
      exact (ho j e _).symm
  have fin' : ∀ locs : List Loc, (∀ q ∈ locs, w.2.2.1 ≤ q.base) → ∀ q ∈ locs ++ [⟨a, f.slot⟩], w.2.2.1 ≤ q.base := by
    intro locs hl q hq
    rcases List.mem_append.mp hq with hq | hq
    · exact hl q hq
    · rw [List.mem_singleton.mp hq]
      exact hB
  have low : ∀ q, q < w.2.2.1 → q ≠ a := fun q hq e => by omega
  rcases hfin with hfin | ⟨hini, hcl⟩
  · have hl2 := hts _ (c2 _ (u_in_lay f1))
    unfold u_lay at hl2
    rw [if_neg (by rw [f3, hfin]; decide)] at hl2
    have h6 := u_store hfc hkC hkind hl2 hi (c3 k f1) hn1 hn2
    exact W.putK x1 x2 (f := f) ⟨x6, hts _ f2, ⟨_, _, _, hi⟩, hst⟩ (by rw [q2]; exact h6) q1 q3 (by rw [hsl]; exact k2_hasslot (q4 k f1)) rfl rfl hd fun H' e1 e2 e3 => kk H' _ _ (key H' e1 e2 e3) (fun q hq => e3 q (low q hq)) (fin' _) h1
  · have h6 := u_fits hfc hkC hkind hlay hi (c3 k f1) hn1 hn2
    cases hfb : fin with
    | false =>
      have hl2 := hts _ (c2 _ (u_in_lay f1))
      unfold u_lay at hl2
      rw [if_neg (by rw [f3, hfb]; decide)] at hl2
      have h6 := u_store hfc hkC hkind hl2 hi (c3 k f1) hn1 hn2
      exact W.putK x1 x2 (f := f) ⟨x6, hts _ f2, ⟨_, _, _, hi⟩, hst⟩ (by rw [q2]; exact h6) q1 q3 (by rw [hsl]; exact k2_hasslot (q4 k f1)) rfl rfl hd fun H' e1 e2 e3 => kk H' _ _ (key H' e1 e2 e3) (fun q hq => e3 q (low q hq)) (fin' _) h1
    | true =>
      have hl2 := hts _ (c2 _ (u_in_lay f1))
      unfold u_lay at hl2
      rw [if_pos (by rw [f3, hfb])] at hl2
      have hcf : m.cls = cf := by
        obtain ⟨_, _, c', _, _, _, -, -, hf', -, -, -, hown2, -⟩ := Cond.laysFinal_spec hl2
        have e1 : c' = cf := by have := hi.symm.trans hf'; simp at this; exact this.1.symm
        rw [f6, ← hcl _ _ _ c1] at hown2
        rw [← e1]; exact Option.some.inj (x6.symm.trans hown2)
      exact W.putFinK x1 x2 x6 (hts _ f2) hi hst hcf (x7.trans hini) (by rw [q2]; exact h6) q1 q3 (by rw [hsl]; exact k2_hasslot (q4 k f1)) rfl rfl hd fun H' e1 e2 e3 => kk H' _ _ (key H' e1 e2 e3) (fun q hq => e3 q (low q hq)) (fin' _) h1
end ZG3
