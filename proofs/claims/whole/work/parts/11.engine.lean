/-! THE HEAP AS FUNCTIONS AGAINST THE MACHINE'S HEAP -/
abbrev zW : Type := va_G × (Nat → ClassId) × Nat × (Nat → Nat) × (Nat → Nat)
def ztcs : List (List Nat) := [[2, 2, 2], [2, 2, 2, 2, 0, 0], [2, 0, 0, 0, 3, 0, 0, 0, 0, 0, 0, 0], [2, 2, 0], [0, 0, 0, 0, 2, 2, 0, 0, 1, 2, 2, 2, 2, 0, 0, 0, 0], [2, 0, 2, 0, 0, 2, 2, 0, 2, 2, 0, 3], [0, 0, 0, 0, 0, 1, 0, 0, 3, 2], [1, 1, 1, 1, 1, 1], [2, 0, 0, 0, 0, 0, 2, 3, 0, 0], [2, 0, 0, 0, 0, 2, 2, 2, 0, 2, 2], [2, 0, 0, 3, 0, 2, 2, 0, 0, 0, 0, 0, 0, 0, 0, 0, 2, 2]]
def ztc (ci k : Nat) : Nat := (ztcs.getD ci []).getD k 0
def zval (tc : Nat) (h : zH) (f a : Nat) : Value := if tc = 1 then .long (zl h f a) else if tc = 2 then va_rf (zr h f a) else .int (zi h f a)
def ztys : List FieldType := [.byte, .int, .long, .boolean, .object "SharedSurplus$Flow", .object "SharedSurplus$Link", .object "SharedSurplus$Net"]
def zcon (t : Nat) (h : zH) (a : Nat) : (Nat → Int32) ⊕ (Nat → Int64) ⊕ (Nat → UInt32) ⊕ (Nat → UInt64) ⊕ (Nat → Option Nat) := if t = 2 then .inr (.inl (zL h a)) else if 4 ≤ t then .inr (.inr (.inr (.inr (zR h a)))) else .inl (zI h a)
def zarr (w : zW) (t : Nat) (h : zH) (a : Nat) : Cell := vp_cell (w.2.1 t) (zn h a, zcon t h a)
def zLen : List Nat := [4, 4, 4, 4, 4, 4, 6, 3, 42]
def zByt : List (List Int32) := [[108, 105, 110, 107], [102, 108, 111, 119], [115, 112, 97, 110], [108, 101, 102, 116], [100, 101, 97, 102], [108, 105, 97, 114], [103, 114, 101, 101, 100, 121], [111, 102, 102], [32, 108, 105, 110, 107, 32, 102, 108, 111, 119, 32, 115, 112, 97, 110, 32, 108, 101, 102, 116, 32, 100, 101, 97, 102, 32, 108, 105, 97, 114, 32, 103, 114, 101, 101, 100, 121, 32, 111, 102, 102, 32]]
def zStr : List (String × Nat × String) := [("SharedSurplus$TextReader", 49, "link"), ("SharedSurplus$TextReader", 59, "flow"), ("SharedSurplus$TextReader", 93, "span"), ("SharedSurplus$TextReader", 151, "left"), ("SharedSurplus$TextReader", 155, "deaf"), ("SharedSurplus$TextReader", 157, "liar"), ("SharedSurplus$TextReader", 159, "greedy"), ("SharedSurplus$TextReader", 146, "off"), ("SharedSurplusModel", 232, " link flow span left deaf liar greedy off ")]
def zNest : List (String × Nat × MethodName × String) := [("SharedSurplus$Net", 25, ⟨"SharedSurplus$Line", "<init>", "()V"⟩, "SharedSurplus"), ("SharedSurplus$Net", 35, ⟨"SharedSurplus$Events", "<init>", "()V"⟩, "SharedSurplus"), ("SharedSurplus$Net", 44, ⟨"SharedSurplus$Link", "<init>", "()V"⟩, "SharedSurplus"), ("SharedSurplus$Link", 11, ⟨"SharedSurplus$Line", "<init>", "()V"⟩, "SharedSurplus"), ("SharedSurplus$Link", 33, ⟨"SharedSurplus$Surplus", "<init>", "()V"⟩, "SharedSurplus"), ("SharedSurplus$Net", 45, ⟨"SharedSurplus$Flow", "<init>", "()V"⟩, "SharedSurplus"), ("SharedSurplus", 36, ⟨"SharedSurplus$TextReader", "<init>", "()V"⟩, "SharedSurplus"), ("SharedSurplus", 43, ⟨"SharedSurplus$BestRates", "<init>", "()V"⟩, "SharedSurplus"), ("SharedSurplus$Net", 124, ⟨"SharedSurplus$Packet", "<init>", "()V"⟩, "SharedSurplus")]
def zOld (w : zW) (U : State) (H : Heap) : Prop := vk_S 9 zLen zByt w.2.2.2.1 w.2.2.2.2 (fun q => w.2.2.1 ≤ q) U H ∧ va_Z "java/lang/String" "COMPACT_STRINGS" "Z" (.int 1) (fun q => w.2.2.1 ≤ q) U H ∧ va_Zq "jdk/internal/util/Preconditions" "SIOOBE_FORMATTER" "Ljava/util/function/BiFunction;" (fun q => w.2.2.1 ≤ q) U H
def zRel (w : zW) (U : State) (h : zH) (H : Heap) : Prop :=
  H.size = zx h ∧ w.2.2.1 ≤ zx h ∧
  (∀ (a : Nat) (r : vw_C), vwCl[zk h a]? = some r → w.2.2.1 ≤ a ∧ t_OB a (w.1.1 (zk h a)) r.2.2 (w.1.2 (zk h a)) H (fun k => zval (ztc (zk h a) k) h (32 * zk h a + k) a)) ∧
  (∀ (a t : Nat) (ty : FieldType), zk h a = 20 + t → ztys[t]? = some ty → w.2.2.1 ≤ a ∧ H[a]? = some (zarr w t h a)) ∧ zOld w U H
def ztyl (w : zW) : List (ClassId × FieldType) := [(w.2.1 0, .byte), (w.2.1 1, .int), (w.2.1 2, .long), (w.2.1 3, .boolean), (w.2.1 4, .object "SharedSurplus$Flow"), (w.2.1 5, .object "SharedSurplus$Link"), (w.2.1 6, .object "SharedSurplus$Net")]
def zK (w : zW) (U : State) : Prop := va_K w.1 vwCl (ztyl w) U ∧ (va_AO "SharedSurplus$Flow" U ∧ va_AO "SharedSurplus$Link" U ∧ va_AO "SharedSurplus$Net" U) ∧
  (∀ q ∈ zNest, va_Nw (.methodLinkNest q.1 q.2.1 q.2.2.1 q.2.2.2) U) ∧ ∀ (i : Nat) (q : String × Nat × String), zStr[i]? = some q → vk_R q.1 q.2.1 q.2.2 (w.2.2.2.1 i) U
theorem zK.moved {w : zW} {s U : State} (hW : s.WarmedH U.vm) (h : zK w s) : zK w U :=
  ⟨va_K.moved hW.alike h.1, ⟨va_AO.moved hW.alike h.2.1.1, va_AO.moved hW.alike h.2.1.2.1, va_AO.moved hW.alike h.2.1.2.2⟩, fun q hq => va_Nw.warmM hW (h.2.2.1 q hq), fun i q hq => vk_R.warm hW (h.2.2.2 i q hq)⟩
theorem zOld.moved {w : zW} {s U : State} {H : Heap} (hW : s.vm.Alike U.vm) (h : zOld w s H) : zOld w U H := ⟨vk_S.moved hW h.1, va_Z.moved hW h.2.1, h.2.2.elim (fun q => Or.inl (va_Z.moved hW q)) (fun q => Or.inr (q.elim fun t z => ⟨t, va_Z.moved hW z⟩))⟩
theorem zOld.kept {w : zW} {U : State} {H H1 : Heap} (h : zOld w U H) (hq : ∀ a : Nat, a < w.2.2.1 → H1[a]? = H[a]?) : zOld w U H1 :=
  ⟨vk_S.kept h.1 (fun a _ n => hq a (Nat.not_le.mp n)), va_Z.kept h.2.1 (fun a _ n => hq a (Nat.not_le.mp n)), h.2.2.elim (fun q => Or.inl (va_Z.kept q (fun a _ n => hq a (Nat.not_le.mp n)))) (fun q => Or.inr (q.elim fun t z => ⟨t, va_Z.kept z (fun a _ n => hq a (Nat.not_le.mp n))⟩))⟩
theorem zRel.moved {w : zW} {s U : State} {h : zH} {H : Heap} (hW : s.vm.Alike U.vm) (r : zRel w s h H) : zRel w U h H := ⟨r.1, r.2.1, r.2.2.1, r.2.2.2.1, r.2.2.2.2.moved hW⟩
theorem zcl_lt {k : Nat} {r : vw_C} (h : vwCl[k]? = some r) : k < 11 := (List.getElem?_eq_some_iff.mp h).1
/-- a change at one address -/
theorem zRel.set {w : zW} {U : State} {h h' : zH} {H H' : Heap} {a : Nat} (r : zRel w U h H) (hB : w.2.2.1 ≤ a) (hsz : H'.size = H.size) (ho : ∀ q, q ≠ a → H'[q]? = H[q]?) (hx : zx h' = zx h) (hk : ∀ b, zk h' b = zk h b)
    (hs : ∀ b, b ≠ a → (∀ f, zi h' f b = zi h f b) ∧ (∀ f, zl h' f b = zl h f b) ∧ (∀ f, zr h' f b = zr h f b) ∧ (∀ i, zI h' b i = zI h b i) ∧ (∀ i, zL h' b i = zL h b i) ∧ (∀ i, zR h' b i = zR h b i) ∧ zn h' b = zn h b)
    (hobj : ∀ r : vw_C, vwCl[zk h a]? = some r → t_OB a (w.1.1 (zk h a)) r.2.2 (w.1.2 (zk h a)) H' (fun k => zval (ztc (zk h a) k) h' (32 * zk h a + k) a))
    (harr : ∀ (t : Nat) (ty : FieldType), zk h a = 20 + t → ztys[t]? = some ty → H'[a]? = some (zarr w t h' a)) : zRel w U h' H' := by
  obtain ⟨r1, r2, r3, r4, r5⟩ := r
  refine ⟨by rw [hsz, hx]; exact r1, by rw [hx]; exact r2, ?_, ?_, r5.kept fun q hq => ho q (by omega)⟩
  · intro b r hr
    rw [hk b] at hr ⊢
    by_cases e : b = a
    · subst e
      exact ⟨hB, hobj r hr⟩
    · obtain ⟨s1, s2, s3, -⟩ := hs b e
      obtain ⟨q1, q2⟩ := r3 b r hr
      refine ⟨q1, (q2.kept (ho b e)).to fun k _ => ?_⟩
      simp only [zval, s1, s2, s3]
  · intro b t ty ht hty
    rw [hk b] at ht
    by_cases e : b = a
    · subst e
      exact ⟨hB, harr t ty ht hty⟩
    · obtain ⟨-, -, -, s4, s5, s6, s7⟩ := hs b e
      obtain ⟨q1, q2⟩ := r4 b t ty ht hty
      refine ⟨q1, (ho b e).trans (q2.trans ?_)⟩
      have e4 : zI h' b = zI h b := funext s4
      have e5 : zL h' b = zL h b := funext s5
      have e6 : zR h' b = zR h b := funext s6
      simp only [zarr, zcon, e4, e5, e6, s7]
/-- a new cell -/
theorem zRel.new {w : zW} {U : State} {h : zH} {H H' : Heap} {k n : Nat} (r : zRel w U h H) (hsz : H'.size = zx h + 1) (ho : ∀ q, q < zx h → H'[q]? = H[q]?)
    (hobj : ∀ r : vw_C, vwCl[k]? = some r → t_OB (zx h) (w.1.1 k) r.2.2 (w.1.2 k) H' (fun j => zval (ztc k j) (zNw h k n) (32 * k + j) (zx h)))
    (harr : ∀ (t : Nat) (ty : FieldType), k = 20 + t → ztys[t]? = some ty → H'[zx h]? = some (zarr w t (zNw h k n) (zx h))) : zRel w U (zNw h k n) H' := by
  obtain ⟨r1, r2, r3, r4, r5⟩ := r
  refine ⟨by rw [hsz, zx_Nw], by rw [zx_Nw]; omega, ?_, ?_, r5.kept fun q hq => ho q (by omega)⟩
  · intro b r hr
    by_cases e : b = zx h
    · have ek : zk (zNw h k n) b = k := by rw [zk_Nw, if_pos e]
      rw [ek] at hr ⊢
      rw [e]
      exact ⟨r2, hobj r hr⟩
    · have ek : zk (zNw h k n) b = zk h b := by rw [zk_Nw, if_neg e]
      rw [ek] at hr ⊢
      obtain ⟨q1, q2⟩ := r3 b r hr
      have hl : b < zx h := by
        obtain ⟨cell, hc, -⟩ := q2
        have := (Array.getElem?_eq_some_iff.mp hc).1
        omega
      refine ⟨q1, (q2.kept (ho b hl)).to fun j _ => ?_⟩
      simp only [zval, zi_Nw, zl_Nw, zr_Nw, if_neg e]
  · intro b t ty ht hty
    by_cases e : b = zx h
    · have ek : zk (zNw h k n) b = k := by rw [zk_Nw, if_pos e]
      rw [ek] at ht
      rw [e]
      exact ⟨r2, harr t ty ht hty⟩
    · have ek : zk (zNw h k n) b = zk h b := by rw [zk_Nw, if_neg e]
      rw [ek] at ht
      obtain ⟨q1, q2⟩ := r4 b t ty ht hty
      have hl : b < zx h := by
        have := (Array.getElem?_eq_some_iff.mp q2).1
        omega
      refine ⟨q1, (ho b hl).trans (q2.trans ?_)⟩
      have e4 : zI (zNw h k n) b = zI h b := funext fun i => by rw [zI_Nw, if_neg e]
      have e5 : zL (zNw h k n) b = zL h b := funext fun i => by rw [zL_Nw, if_neg e]
      have e6 : zR (zNw h k n) b = zR h b := funext fun i => by rw [zR_Nw, if_neg e]
      simp only [zarr, zcon, e4, e5, e6, zn_Nw, if_neg e]
/-! THE JUDGEMENTS -/
/-- a method: its name, its code, its locals, what it returns, the frames and the words that it may need below it -/
abbrev zMe : Type := MethodName × ByteArray × Nat × Option FieldType × Nat × Nat
abbrev zRm (M : zMe) (cells slots : Nat) : Room := { frames := M.2.2.2.2.1, cells := cells, slots := slots, locals := M.2.2.2.2.2 }
def zCtx (w : zW) (M : zMe) (p : Program) (s : State) (m : MethodId) (args : Array Value) (meth : Method) (c : Code) : Prop :=
  p.tables.exec = Jvm.exec ∧ c.code = M.2.1 ∧ c.maxLocals = M.2.2.1 ∧ meth.sig.returnType = M.2.2.2.1 ∧ meth.locks = false ∧ s.vm.findClass M.1.cls = some m.cls ∧ meth.name = M.1.name ∧ (∀ x ∈ lw_all, x.before args s = true) ∧ zK w s
def zQc (w : zW) (v : Option Value) (h : zH) : Array Value → State → Outcome → State → Prop := fun _ st o t => o = .returned v ∧ zRel w t h t.heap ∧ ∀ q : Nat, q < w.2.2.1 → t.heap[q]? = st.heap[q]?
/-- the walk stands so: heap, locals, what was written and made -/
def zAt (w : zW) (M : zMe) (s : State) (h : zH) (H : Heap) (lv : List (Nat × Value)) (ls : Array Slot) (locs : List Loc) (x0 t0 : Nat) : Prop :=
  zRel w s h H ∧ (∀ q : Nat, q < w.2.2.1 → H[q]? = s.heap[q]?) ∧ (∀ q ∈ locs, w.2.2.1 ≤ q.base) ∧ lv_has ls M.2.2.1 lv ∧ x0 ≤ zx h ∧ t0 ≤ zt h
def zV (l : Launch) (w : zW) (M : zMe) (pc : Nat) (lv : List (Nat × Value)) (st : List Value) (h : zH) (v : Option Value) (h' : zH) : Prop :=
  zx h ≤ zx h' ∧ zt h ≤ zt h' ∧ ∀ (p : Program) (e : Env) (s : State) (m : MethodId) (args : Array Value) (below : List Frame) (meth : Method) (c : Code) (x0 t0 : Nat) (H : Heap) (ls : Array Slot) (locs : List Loc), zCtx w M p s m args meth c → zAt w M s h H lv ls locs x0 t0 →
    W p l e (zRm M (zx h' - x0) (zt h' - t0)) s m args below meth c H locs (zx h - x0) (zt h - t0) (MQ below (zQc w v h') args s (zx h' - x0) (zt h' - t0) (fun q => w.2.2.1 ≤ q)) (F0 m pc ls st)
def zG (l : Launch) (w : zW) (M : zMe) (pc : Nat) (lv : List (Nat × Value)) (st : List Value) (h : zH) (Q : Option Value → zH → Prop) : Prop := ∃ (v : Option Value) (h' : zH), zV l w M pc lv st h v h' ∧ Q v h'
def zC (l : Launch) (w : zW) (M : zMe) (av : List Value) (h : zH) (v : Option Value) (h' : zH) : Prop :=
  zx h ≤ zx h' ∧ zt h ≤ zt h' ∧ Met l M.1 (.code M.1 M.2.1 M.2.2.1 M.2.2.2.1 :: lw_all) (zRm M (zx h' - zx h) (zt h' - zt h)) (va_Pc av (fun U => zK w U ∧ zRel w U h U.heap)) (zQc w v h') (zx h' - zx h) (zt h' - zt h) (fun q => w.2.2.1 ≤ q)
/-- a method's contract: from every state that holds the heap h it returns, and Q holds of its answer and of the heap behind it -/
def zM (l : Launch) (w : zW) (M : zMe) (av : List Value) (h : zH) (Q : Option Value → zH → Prop) : Prop := ∃ (v : Option Value) (h' : zH), zC l w M av h v h' ∧ Q v h'
theorem zM.mono {l : Launch} {w : zW} {M : zMe} {av : List Value} {h : zH} {Q Q' : Option Value → zH → Prop} (a : zM l w M av h Q) (b : ∀ v h', Q v h' → Q' v h') : zM l w M av h Q' := by
  obtain ⟨v, h', x, y⟩ := a
  exact ⟨v, h', x, b v h' y⟩
section ZG
variable {l : Launch} {w : zW} {M : zMe} {pc : Nat} {lv : List (Nat × Value)} {rest : List Value} {h : zH} {Q : Option Value → zH → Prop}
/-- a row that moves no heap -/
theorem zG.go {pc2 : Nat} {lv2 : List (Nat × Value)} {st st2 : List Value}
    (hW : ∀ {p : Program} {e : Env} {s : State} {m : MethodId} {args : Array Value} {below : List Frame} {meth : Method} {c : Code} {R : Room} {H : Heap} {ls : Array Slot} {locs : List Loc} {cells slots : Nat} {Qf : State → Prop}, zCtx w M p s m args meth c → zRel w s h H → lv_has ls M.2.2.1 lv →
      (∀ ls2 : Array Slot, lv_has ls2 M.2.2.1 lv2 → W p l e R s m args below meth c H locs cells slots Qf (F0 m pc2 ls2 st2)) → W p l e R s m args below meth c H locs cells slots Qf (F0 m pc ls st))
    (k : zG l w M pc2 lv2 st2 h Q) : zG l w M pc lv st h Q := by
  obtain ⟨v, h', ⟨k1, k2, k3⟩, k4⟩ := k
  refine ⟨v, h', ⟨k1, k2, fun p e s m args below meth c x0 t0 H ls locs C A => ?_⟩, k4⟩
  obtain ⟨a1, a2, a3, a4, a5, a6⟩ := A
  exact hW C a1 a4 fun ls2 h2 => k3 p e s m args below meth c x0 t0 H ls2 locs C ⟨a1, a2, a3, h2, a5, a6⟩
/-- a method's body gives its contract -/
theorem zM.of {av : List Value} (hy : plainName M.1.cls = true) (hl : (lg_sl av).length ≤ M.2.2.1) (k : zG l w M 0 (lv_args 0 av) [] h Q) : zM l w M av h Q := by
  obtain ⟨v, h', ⟨k1, k2, k3⟩, k4⟩ := k
  refine ⟨v, h', ⟨k1, k2, Met.ofW (cc := M.2.1) (maxL := M.2.2.1) (ret := M.2.2.2.1) hy rfl ?_⟩, k4⟩
  intro p e s m args below meth c s₁ B hml hv
  obtain ⟨rfl, hK, hR⟩ := hv
  have hts := atoms_spec (ws := .code M.1 M.2.1 M.2.2.1 M.2.2.2.1 :: lw_all) B.pre
  have C : zCtx w M p s m av.toArray meth c := ⟨B.exec, B.bytes, hml, B.returns, B.notSynchronized, findClass_of_methodNamed B.named, (name_of_methodNamed B.named B.method).1, fun x hx => hts x (List.mem_cons_of_mem _ hx), hK⟩
  rw [lg_entry_eq]
  have k5 := k3 p e s m av.toArray below meth c (zx h) (zt h) s.heap _ [] C ⟨hR, fun _ _ => rfl, fun _ hq => absurd hq List.not_mem_nil, lv_entry av hl, Nat.le_refl _, Nat.le_refl _⟩
  simp only [Nat.sub_self] at k5
  exact k5
theorem zG.sub {lv' : List (Nat × Value)} {st : List Value} (ks : List Nat) (hl : lv_pick lv ks = lv') (k : zG l w M pc lv' st h Q) : zG l w M pc lv st h Q :=
  zG.go (fun _ _ h1 kk => kk _ (lv_sub h1 ks hl)) k
theorem zG.mono {st : List Value} {Q' : Option Value → zH → Prop} (a : zG l w M pc lv st h Q) (b : ∀ v h', Q v h' → Q' v h') : zG l w M pc lv st h Q' := by
  obtain ⟨v, h', x, y⟩ := a
  exact ⟨v, h', x, b v h' y⟩
theorem g_iconst {n : Int} {v : Int32} (hd : decode M.2.1 pc = .ok (.iconst n, 1)) (hv : Int32.ofInt n = v) (k : zG l w M (pc + 1) lv (.int v :: rest) h Q) : zG l w M pc lv (rest) h Q :=
  zG.go (fun C _ h1 kk => lv_iconst C.1 C.2.1 hd hv (kk _ h1)) k
theorem g_bipush {n : Int} {v : Int32} (hd : decode M.2.1 pc = .ok (.bipush n, 2)) (hv : (Int8.ofInt n).toInt32 = v) (k : zG l w M (pc + 2) lv (.int v :: rest) h Q) : zG l w M pc lv (rest) h Q :=
  zG.go (fun C _ h1 kk => lv_bipush C.1 C.2.1 hd hv (kk _ h1)) k
theorem g_sipush {n : Int} {v : Int32} (hd : decode M.2.1 pc = .ok (.sipush n, 3)) (hv : (Int16.ofInt n).toInt32 = v) (k : zG l w M (pc + 3) lv (.int v :: rest) h Q) : zG l w M pc lv (rest) h Q :=
  zG.go (fun C _ h1 kk => lv_sipush C.1 C.2.1 hd hv (kk _ h1)) k
theorem g_lconst {n : Fin 2} {v : Int64} (hd : decode M.2.1 pc = .ok (.lconst n, 1)) (hv : Int64.ofNat (n : Nat) = v) (k : zG l w M (pc + 1) lv (.long v :: rest) h Q) : zG l w M pc lv (rest) h Q :=
  zG.go (fun C _ h1 kk => lv_lconst C.1 C.2.1 hd hv (kk _ h1)) k
theorem g_null (hd : decode M.2.1 pc = .ok (.aconst_null, 1)) (k : zG l w M (pc + 1) lv (.null :: rest) h Q) : zG l w M pc lv (rest) h Q :=
  zG.go (fun C _ h1 kk => lv_null C.1 C.2.1 hd (kk _ h1)) k
theorem g_iload_n {j : Fin 4} {i : Nat} {x : Int32} (n : Nat) (hd : decode M.2.1 pc = .ok (.iload_n j, 1)) (hi : (j : Nat) = i) (hl : lv[n]? = some (i, .int x)) (k : zG l w M (pc + 1) lv (.int x :: rest) h Q) : zG l w M pc lv rest h Q :=
  zG.go (fun C _ h1 kk => lv_iload_n C.1 C.2.1 hd hi (lv_at h1 n hl) (kk _ h1)) k
theorem g_iload {i : Nat} {x : Int32} (n : Nat) (hd : decode M.2.1 pc = .ok (.iload i, 2)) (hl : lv[n]? = some (i, .int x)) (k : zG l w M (pc + 2) lv (.int x :: rest) h Q) : zG l w M pc lv rest h Q :=
  zG.go (fun C _ h1 kk => lv_iload C.1 C.2.1 hd (lv_at h1 n hl) (kk _ h1)) k
theorem g_lload_n {j : Fin 4} {i : Nat} {x : Int64} (n : Nat) (hd : decode M.2.1 pc = .ok (.lload_n j, 1)) (hi : (j : Nat) = i) (hl : lv[n]? = some (i, .long x)) (k : zG l w M (pc + 1) lv (.long x :: rest) h Q) : zG l w M pc lv rest h Q :=
  zG.go (fun C _ h1 kk => lv_lload_n C.1 C.2.1 hd hi (lv_at h1 n hl) (kk _ h1)) k
theorem g_lload {i : Nat} {x : Int64} (n : Nat) (hd : decode M.2.1 pc = .ok (.lload i, 2)) (hl : lv[n]? = some (i, .long x)) (k : zG l w M (pc + 2) lv (.long x :: rest) h Q) : zG l w M pc lv rest h Q :=
  zG.go (fun C _ h1 kk => lv_lload C.1 C.2.1 hd (lv_at h1 n hl) (kk _ h1)) k
theorem g_aload_n {j : Fin 4} {i : Nat} {x : Nat} (n : Nat) (hd : decode M.2.1 pc = .ok (.aload_n j, 1)) (hi : (j : Nat) = i) (hl : lv[n]? = some (i, .ref x)) (k : zG l w M (pc + 1) lv (.ref x :: rest) h Q) : zG l w M pc lv rest h Q :=
  zG.go (fun C _ h1 kk => lv_aload_n C.1 C.2.1 hd hi (lv_at h1 n hl) (kk _ h1)) k
theorem g_aload {i : Nat} {x : Nat} (n : Nat) (hd : decode M.2.1 pc = .ok (.aload i, 2)) (hl : lv[n]? = some (i, .ref x)) (k : zG l w M (pc + 2) lv (.ref x :: rest) h Q) : zG l w M pc lv rest h Q :=
  zG.go (fun C _ h1 kk => lv_aload C.1 C.2.1 hd (lv_at h1 n hl) (kk _ h1)) k
theorem g_aload_nN {j : Fin 4} {i : Nat} (n : Nat) (hd : decode M.2.1 pc = .ok (.aload_n j, 1)) (hi : (j : Nat) = i) (hl : lv[n]? = some (i, .null)) (k : zG l w M (pc + 1) lv (.null :: rest) h Q) : zG l w M pc lv rest h Q :=
  zG.go (fun C _ h1 kk => lv_aload_nN C.1 C.2.1 hd hi (lv_at h1 n hl) (kk _ h1)) k
theorem g_aloadN {i : Nat} (n : Nat) (hd : decode M.2.1 pc = .ok (.aload i, 2)) (hl : lv[n]? = some (i, .null)) (k : zG l w M (pc + 2) lv (.null :: rest) h Q) : zG l w M pc lv rest h Q :=
  zG.go (fun C _ h1 kk => lv_aloadN C.1 C.2.1 hd (lv_at h1 n hl) (kk _ h1)) k
theorem g_istore_n {j : Fin 4} {i : Nat} {x : Int32} {lv2 : List (Nat × Value)} (hd : decode M.2.1 pc = .ok (.istore_n j, 1)) (hi : (j : Nat) = i) (hn : i < M.2.2.1) (hl : (i, Value.int x) :: lv.filter (fun q => !(q.1 == i) && !(q.1 + 1 == i && q.2.category == 2)) = lv2) (k : zG l w M (pc + 1) lv2 rest h Q) : zG l w M pc lv (.int x :: rest) h Q :=
  zG.go (fun C _ h1 kk => lv_istore_n C.1 C.2.1 hd hi h1 hn hl kk) k
theorem g_istore {i : Nat} {x : Int32} {lv2 : List (Nat × Value)} (hd : decode M.2.1 pc = .ok (.istore i, 2)) (hn : i < M.2.2.1) (hl : (i, Value.int x) :: lv.filter (fun q => !(q.1 == i) && !(q.1 + 1 == i && q.2.category == 2)) = lv2) (k : zG l w M (pc + 2) lv2 rest h Q) : zG l w M pc lv (.int x :: rest) h Q :=
  zG.go (fun C _ h1 kk => lv_istore C.1 C.2.1 hd h1 hn hl kk) k
theorem g_lstore_n {j : Fin 4} {i : Nat} {x : Int64} {lv2 : List (Nat × Value)} (hd : decode M.2.1 pc = .ok (.lstore_n j, 1)) (hi : (j : Nat) = i) (hn : i + 1 < M.2.2.1) (hl : (i, Value.long x) :: lv.filter (fun q => !(q.1 == i) && (!(q.1 == i + 1) && !(q.1 + 1 == i && q.2.category == 2))) = lv2) (k : zG l w M (pc + 1) lv2 rest h Q) : zG l w M pc lv (.long x :: rest) h Q :=
  zG.go (fun C _ h1 kk => lv_lstore_n C.1 C.2.1 hd hi h1 hn hl kk) k
theorem g_lstore {i : Nat} {x : Int64} {lv2 : List (Nat × Value)} (hd : decode M.2.1 pc = .ok (.lstore i, 2)) (hn : i + 1 < M.2.2.1) (hl : (i, Value.long x) :: lv.filter (fun q => !(q.1 == i) && (!(q.1 == i + 1) && !(q.1 + 1 == i && q.2.category == 2))) = lv2) (k : zG l w M (pc + 2) lv2 rest h Q) : zG l w M pc lv (.long x :: rest) h Q :=
  zG.go (fun C _ h1 kk => lv_lstore C.1 C.2.1 hd h1 hn hl kk) k
theorem g_astore_n {j : Fin 4} {i : Nat} {x : Nat} {lv2 : List (Nat × Value)} (hd : decode M.2.1 pc = .ok (.astore_n j, 1)) (hi : (j : Nat) = i) (hn : i < M.2.2.1) (hl : (i, Value.ref x) :: lv.filter (fun q => !(q.1 == i) && !(q.1 + 1 == i && q.2.category == 2)) = lv2) (k : zG l w M (pc + 1) lv2 rest h Q) : zG l w M pc lv (.ref x :: rest) h Q :=
  zG.go (fun C _ h1 kk => lv_astore_n C.1 C.2.1 hd hi h1 hn hl kk) k
theorem g_astore {i : Nat} {x : Nat} {lv2 : List (Nat × Value)} (hd : decode M.2.1 pc = .ok (.astore i, 2)) (hn : i < M.2.2.1) (hl : (i, Value.ref x) :: lv.filter (fun q => !(q.1 == i) && !(q.1 + 1 == i && q.2.category == 2)) = lv2) (k : zG l w M (pc + 2) lv2 rest h Q) : zG l w M pc lv (.ref x :: rest) h Q :=
  zG.go (fun C _ h1 kk => lv_astore C.1 C.2.1 hd h1 hn hl kk) k
theorem g_astore_nN {j : Fin 4} {i : Nat} {lv2 : List (Nat × Value)} (hd : decode M.2.1 pc = .ok (.astore_n j, 1)) (hi : (j : Nat) = i) (hn : i < M.2.2.1) (hl : (i, Value.null) :: lv.filter (fun q => !(q.1 == i) && !(q.1 + 1 == i && q.2.category == 2)) = lv2) (k : zG l w M (pc + 1) lv2 rest h Q) : zG l w M pc lv (.null :: rest) h Q :=
  zG.go (fun C _ h1 kk => lv_astore_nN C.1 C.2.1 hd hi h1 hn hl kk) k
theorem g_astoreN {i : Nat} {lv2 : List (Nat × Value)} (hd : decode M.2.1 pc = .ok (.astore i, 2)) (hn : i < M.2.2.1) (hl : (i, Value.null) :: lv.filter (fun q => !(q.1 == i) && !(q.1 + 1 == i && q.2.category == 2)) = lv2) (k : zG l w M (pc + 2) lv2 rest h Q) : zG l w M pc lv (.null :: rest) h Q :=
  zG.go (fun C _ h1 kk => lv_astoreN C.1 C.2.1 hd h1 hn hl kk) k
theorem g_iinc {i n : Nat} {d : Int} {x v : Int32} {lv2 : List (Nat × Value)} (n : Nat) (hd : decode M.2.1 pc = .ok (.iinc i d, 3)) (hk : lv[n]? = some (i, .int x)) (hv : x + Int32.ofInt d = v) (hn : i < M.2.2.1) (hl : (i, Value.int v) :: lv.filter (fun q => !(q.1 == i) && !(q.1 + 1 == i && q.2.category == 2)) = lv2) (k : zG l w M (pc + 3) lv2 rest h Q) : zG l w M pc lv rest h Q :=
  zG.go (fun C _ h1 kk => lv_iinc C.1 C.2.1 hd h1 hk hv hn hl kk) k
theorem g_iadd {x y : Int32} (hd : decode M.2.1 pc = .ok (.iadd, 1)) (k : zG l w M (pc + 1) lv (.int (x + y) :: rest) h Q) : zG l w M pc lv (.int y :: .int x :: rest) h Q :=
  zG.go (fun C _ h1 kk => lv_iadd C.1 C.2.1 hd (kk _ h1)) k
theorem g_isub {x y : Int32} (hd : decode M.2.1 pc = .ok (.isub, 1)) (k : zG l w M (pc + 1) lv (.int (x - y) :: rest) h Q) : zG l w M pc lv (.int y :: .int x :: rest) h Q :=
  zG.go (fun C _ h1 kk => lv_isub C.1 C.2.1 hd (kk _ h1)) k
theorem g_imul {x y : Int32} (hd : decode M.2.1 pc = .ok (.imul, 1)) (k : zG l w M (pc + 1) lv (.int (x * y) :: rest) h Q) : zG l w M pc lv (.int y :: .int x :: rest) h Q :=
  zG.go (fun C _ h1 kk => lv_imul C.1 C.2.1 hd (kk _ h1)) k
theorem g_iand {x y : Int32} (hd : decode M.2.1 pc = .ok (.iand, 1)) (k : zG l w M (pc + 1) lv (.int (x &&& y) :: rest) h Q) : zG l w M pc lv (.int y :: .int x :: rest) h Q :=
  zG.go (fun C _ h1 kk => lv_iand C.1 C.2.1 hd (kk _ h1)) k
theorem g_ior {x y : Int32} (hd : decode M.2.1 pc = .ok (.ior, 1)) (k : zG l w M (pc + 1) lv (.int (x ||| y) :: rest) h Q) : zG l w M pc lv (.int y :: .int x :: rest) h Q :=
  zG.go (fun C _ h1 kk => lv_ior C.1 C.2.1 hd (kk _ h1)) k
theorem g_ixor {x y : Int32} (hd : decode M.2.1 pc = .ok (.ixor, 1)) (k : zG l w M (pc + 1) lv (.int (x ^^^ y) :: rest) h Q) : zG l w M pc lv (.int y :: .int x :: rest) h Q :=
  zG.go (fun C _ h1 kk => lv_ixor C.1 C.2.1 hd (kk _ h1)) k
theorem g_ladd {x y : Int64} (hd : decode M.2.1 pc = .ok (.ladd, 1)) (k : zG l w M (pc + 1) lv (.long (x + y) :: rest) h Q) : zG l w M pc lv (.long y :: .long x :: rest) h Q :=
  zG.go (fun C _ h1 kk => lv_ladd C.1 C.2.1 hd (kk _ h1)) k
theorem g_lsub {x y : Int64} (hd : decode M.2.1 pc = .ok (.lsub, 1)) (k : zG l w M (pc + 1) lv (.long (x - y) :: rest) h Q) : zG l w M pc lv (.long y :: .long x :: rest) h Q :=
  zG.go (fun C _ h1 kk => lv_lsub C.1 C.2.1 hd (kk _ h1)) k
theorem g_lmul {x y : Int64} (hd : decode M.2.1 pc = .ok (.lmul, 1)) (k : zG l w M (pc + 1) lv (.long (x * y) :: rest) h Q) : zG l w M pc lv (.long y :: .long x :: rest) h Q :=
  zG.go (fun C _ h1 kk => lv_lmul C.1 C.2.1 hd (kk _ h1)) k
theorem g_land {x y : Int64} (hd : decode M.2.1 pc = .ok (.land, 1)) (k : zG l w M (pc + 1) lv (.long (x &&& y) :: rest) h Q) : zG l w M pc lv (.long y :: .long x :: rest) h Q :=
  zG.go (fun C _ h1 kk => lv_land C.1 C.2.1 hd (kk _ h1)) k
theorem g_lxor {x y : Int64} (hd : decode M.2.1 pc = .ok (.lxor, 1)) (k : zG l w M (pc + 1) lv (.long (x ^^^ y) :: rest) h Q) : zG l w M pc lv (.long y :: .long x :: rest) h Q :=
  zG.go (fun C _ h1 kk => lv_lxor C.1 C.2.1 hd (kk _ h1)) k
theorem g_idiv {x y : Int32} (hd : decode M.2.1 pc = .ok (.idiv, 1)) (hne : ¬ y = 0) (k : zG l w M (pc + 1) lv (.int (x / y) :: rest) h Q) : zG l w M pc lv (.int y :: .int x :: rest) h Q :=
  zG.go (fun C _ h1 kk => lv_idiv C.1 C.2.1 hd hne (kk _ h1)) k
theorem g_irem {x y : Int32} (hd : decode M.2.1 pc = .ok (.irem, 1)) (hne : ¬ y = 0) (k : zG l w M (pc + 1) lv (.int (x - (x / y) * y) :: rest) h Q) : zG l w M pc lv (.int y :: .int x :: rest) h Q :=
  zG.go (fun C _ h1 kk => lv_irem C.1 C.2.1 hd hne (kk _ h1)) k
theorem g_ldiv {x y : Int64} (hd : decode M.2.1 pc = .ok (.ldiv, 1)) (hne : ¬ y = 0) (k : zG l w M (pc + 1) lv (.long (x / y) :: rest) h Q) : zG l w M pc lv (.long y :: .long x :: rest) h Q :=
  zG.go (fun C _ h1 kk => lv_ldiv C.1 C.2.1 hd hne (kk _ h1)) k
theorem g_lrem {x y : Int64} (hd : decode M.2.1 pc = .ok (.lrem, 1)) (hne : ¬ y = 0) (k : zG l w M (pc + 1) lv (.long (x - (x / y) * y) :: rest) h Q) : zG l w M pc lv (.long y :: .long x :: rest) h Q :=
  zG.go (fun C _ h1 kk => lv_lrem C.1 C.2.1 hd hne (kk _ h1)) k
end ZG
