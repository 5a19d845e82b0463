def R_law : String := "SharedSurplusLaw"
def lw_P (b : Addr) (xs : List Int32) (args : Array Value) (s : State) : Prop := args = #[.ref b] ∧ s.IntsAt b xs ∧ xs.length ≤ 3072 ∧ (Jvm.Cond.and given_1 narrow_1).before args s = true
def lw_Q (_ : Array Value) (s : State) (o : Outcome) (t : State) : Prop := o = .returned (some (.int 1)) ∧ Framed s o t [] 600000 7302250
def lw_Z (below : List Frame) (a : Array Value) (s : State) : State → Prop := fun t => ∃ o, t.status = .running ∧ Ended t below o ∧ lw_Q a s o t
/-- the law's own end, with 1 on the stack, nothing written that was there before, its room as the claim has it -/
theorem lw_ret {p : Program} {l : Launch} {e : Env} {s : State} {m : MethodId} {below : List Frame} {meth : Method} {c : Code} {b : Nat} (hx : p.tables.exec = Jvm.exec) (hb : c.code = code) (hr : meth.sig.returnType = ret) (hlocks : meth.locks = false) {pc : Nat} {H : Heap} {ls : Array Slot} (hdg : decode code pc = .ok (.ireturn, 1)) : W p l e room_1 s m #[Value.ref b] below meth c H [] 600000 7302250 (lw_Z below #[Value.ref b] s) (F0 m pc ls [.int 1]) := by
  intro T hT X
  obtain ⟨fs, hret, hrun, hended, hW, hframe⟩ := X.leave (v := some (.int 1)) (hlocks := hlocks) (fun h => by rw [hr] at h; cases h)
  have hmeth' : T.vm.method? m = some meth := X.method'
  refine ⟨T.setFrames fs, ?_, .returned (some (.int 1)), hrun, hended, rfl, ⟨_, rfl⟩, hW, hframe⟩
  jvm_step X.here [X.here.top, hx, hb, hdg, hmeth', hr, ret, narrow_b1]
  (try refine ⟨rfl, ?_⟩); (try refine ⟨rfl, ?_⟩)
  first | (intro acts; rw [hret _ acts rfl rfl rfl]) | rw [hret _ _ rfl rfl rfl]
  exact Steps.refl _
/-- what holds at the law's entry: the machine, the code, the tables' words (any of lw_tbl by 'hts w (by decide +kernel)'), the script of L ints xs at the cell b, what the Statement gives of the start (any of its parts by flat_of_before) -/
def lw_At (p : Program) (s : State) (m : MethodId) (meth : Method) (c : Code) (b L : Nat) (xs : Nat → Int32) : Prop :=
  p.tables.exec = Jvm.exec ∧ c.code = code ∧ meth.sig.returnType = ret ∧ c.maxLocals = 4 ∧ s.vm.findClass R_law = some m.cls ∧ (∀ w ∈ lw_tbl, w.before #[Value.ref b] s = true) ∧ va_X b L xs s s.heap ∧ b < s.heap.size ∧ meth.locks = false ∧ (Jvm.Cond.and given_1 narrow_1).before #[Value.ref b] s = true
section LAWr
variable {p : Program} {l : Launch} {e : Env} {s : State} {m : MethodId} {below : List Frame} {meth : Method} {c : Code} {w : zW} {b L : Nat} {xs : Nat → Int32} {h h1 : zH} {H : Heap} {lv : List (Nat × Value)} {ls : Array Slot} {locs : List Loc} {x0 t0 pc : Nat} {rest : List Value}
/-- the law as a caller -/
def mLw : zMe := (yL_law, cL_law, 4, some .boolean, 13, 484)
/-- what the law's walk has at hand all the way -/
def LawC (p : Program) (w : zW) (s : State) (m : MethodId) (meth : Method) (c : Code) (b L : Nat) (xs : Nat → Int32) : Prop := (p.tables.exec = Jvm.exec ∧ c.code = cL_law ∧ c.maxLocals = 4 ∧ s.vm.findClass RL = some m.cls ∧ (∀ x ∈ lw_all, x.before #[Value.ref b] s = true) ∧ zK w s) ∧ (va_X b L xs s s.heap ∧ b < s.heap.size) ∧ w.2.2.1 = s.heap.size ∧ meth.sig.returnType = ret ∧ meth.locks = false
theorem lw_S (hw : w.2.2.1 = s.heap.size) (A : zAt w mLw s h H lv ls locs x0 t0) : va_S (fun q => s.heap.size ≤ q) s.heap H locs := ⟨by have := A.1.1; have := A.1.2.1; omega, fun q hq _ => A.2.1 q (by omega), fun q hq => by rw [← hw]; exact A.2.2.1 q hq⟩
/-- a call out of the law -/
theorem lw_call {M' : zMe} {av st : List Value} {v : Option Value} (C : LawC p w s m meth c b L xs) (hC : zC l w M' av h v h1) (x6 : zx h1 ≤ x0 + 600000) (t6 : zt h1 ≤ t0 + 7302250) (A : zAt w mLw s h H lv ls locs x0 t0)
    (hrun : ∀ {mc ms : Nat}, Met l M'.1 (.code M'.1 M'.2.1 M'.2.2.1 M'.2.2.2.1 :: lw_all) (zRm M' mc ms) (va_Pc av (fun U => zK w U ∧ zRel w U h U.heap)) (zQc w v h1) mc ms (fun q => w.2.2.1 ≤ q) → zx h - x0 + mc ≤ 600000 ∧ zt h - t0 + ms ≤ 7302250 →
      va_Run p l e room_1 s m #[Value.ref b] below meth c H locs (zx h - x0) (zt h - t0) mc ms (F0 m pc ls st) rest (zQc w v h1 av.toArray) (fun q => w.2.2.1 ≤ q))
    (k : ∀ H1 locs1, zAt w mLw s h1 H1 lv ls locs1 x0 t0 → W p l e room_1 s m #[Value.ref b] below meth c H1 locs1 (zx h1 - x0) (zt h1 - t0) (lw_Z below #[Value.ref b] s) (F0 m (pc + 3) ls (v.toList ++ rest))) :
    W p l e room_1 s m #[Value.ref b] below meth c H locs (zx h - x0) (zt h - t0) (lw_Z below #[Value.ref b] s) (F0 m pc ls st) := by
  obtain ⟨c1, c2, hM⟩ := hC
  obtain ⟨a1, a2, a3, a4, a5, a6⟩ := A
  intro T hT X
  obtain ⟨v2, st0, t, T', L', e0, X', hL, e1, e2, ⟨hv, hr, hlow⟩, go⟩ := hrun hM ⟨by omega, by omega⟩ T hT X
  cases hv
  have r1 : zRel w s h1 T'.heap := by
    rw [e1]
    refine hr.moved ?_
    rw [← e2]
    exact X'.warmed.alike.symm
  rw [show zx h - x0 + (zx h1 - zx h) = zx h1 - x0 by omega, show zt h - t0 + (zt h1 - zt h) = zt h1 - t0 by omega] at X'
  obtain ⟨t2, s1, q1⟩ := k T'.heap (locs ++ L') ⟨r1, fun q hq => by rw [e1, hlow q hq, e0]; exact a2 q hq, fun q hq => by
    rcases List.mem_append.mp hq with hq | hq
    · exact a3 q hq
    · exact hL q hq, a4, by omega, by omega⟩ T' rfl X'
  exact ⟨t2, go t2 s1, q1⟩
theorem lw_invv {M' : zMe} {idx ci n a : Nat} {As st : List Value} {T : u_T} {N : Nat} {C0 : String} {v : Option Value} (C : LawC p w s m meth c b L xs) (hd : decode cL_law pc = .ok (.invokevirtual idx, 3)) (hl : Cond.methodLink RL idx M'.1 ∈ lw_all) (hM : zMOk M' n) (hi : Cond.instanceMethod M'.1 ∈ lw_all) (hs : Cond.selects M'.1.cls M'.1 M'.1 ∈ lw_all) (hf : zFits mLw M') (hcl : vwCl[ci]? = some (C0, T, N)) (hc0 : C0 = M'.1.cls) (hk : zk h a = ci) (hst : st = As.reverse ++ .ref a :: rest) (hn : As.length = n) (hw : (rest.map fun v => v.category).sum ≤ 8)
    (hC : zC l w M' (.ref a :: As) h v h1) (x6 : zx h1 ≤ x0 + 600000) (t6 : zt h1 ≤ t0 + 7302250) (A : zAt w mLw s h H lv ls locs x0 t0)
    (k : ∀ H1 locs1, zAt w mLw s h1 H1 lv ls locs1 x0 t0 → W p l e room_1 s m #[Value.ref b] below meth c H1 locs1 (zx h1 - x0) (zt h1 - t0) (lw_Z below #[Value.ref b] s) (F0 m (pc + 3) ls (v.toList ++ rest))) :
    W p l e room_1 s m #[Value.ref b] below meth c H locs (zx h - x0) (zt h - t0) (lw_Z below #[Value.ref b] s) (F0 m pc ls st) := by
  refine lw_call C hC x6 t6 A (fun {mc} {ms} hMet hroom => ?_) k
  obtain ⟨⟨y1, y2, y3, y6, hts, hK⟩, -⟩ := C
  obtain ⟨r, -, -, hlv, -, -⟩ := A
  subst hk
  subst hc0
  obtain ⟨hB, cell, q1, q2, q3, q4⟩ := r.2.2.1 a _ hcl
  exact va_runV (C := M'.1.cls) (As := As) (rest := rest) (bytes := M'.2.1) (maxL := M'.2.2.1) (ret := M'.2.2.2.1) (n := n) ⟨y1, y2, y3, y6, hts⟩ hMet ⟨⟨rfl, rfl, hf.1, hf.2, pay_in hts (z_ws hM.1), List.mem_cons_self, hts _ hM.1, hts _ hM.2.1, ⟨hM.2.2.1, hM.2.2.2.1⟩, z_len hM.2.2.2.2 rfl, hts _ hl⟩, hts _ hi, hts _ hs⟩ ⟨z_blind, ⟨cell, q1, by rw [q3]; rfl, by rw [q2]; exact (hK.1.1 _ _ hcl).2.1⟩, fun U e hW => z_pc hK r e hW⟩ rfl hn hlv.1 hst (lv_room hw) hd hroom
theorem lw_invi {M' : zMe} {idx n a : Nat} {As st : List Value} {v : Option Value} (C : LawC p w s m meth c b L xs) (hd : decode cL_law pc = .ok (.invokespecial idx, 3)) (hl : Cond.methodLink RL idx M'.1 ∈ lw_all) (hM : zMOk M' n) (hi : Cond.instanceMethod M'.1 ∈ lw_all) (hnm : M'.1.name = "<init>") (hr : M'.2.2.2.1 = none) (hf : zFits mLw M') (hst : st = As.reverse ++ .ref a :: rest) (hn : As.length = n) (hw : (rest.map fun v => v.category).sum ≤ 8)
    (hC : zC l w M' (.ref a :: As) h v h1) (x6 : zx h1 ≤ x0 + 600000) (t6 : zt h1 ≤ t0 + 7302250) (A : zAt w mLw s h H lv ls locs x0 t0)
    (k : ∀ H1 locs1, zAt w mLw s h1 H1 lv ls locs1 x0 t0 → W p l e room_1 s m #[Value.ref b] below meth c H1 locs1 (zx h1 - x0) (zt h1 - t0) (lw_Z below #[Value.ref b] s) (F0 m (pc + 3) ls (v.toList ++ rest))) :
    W p l e room_1 s m #[Value.ref b] below meth c H locs (zx h - x0) (zt h - t0) (lw_Z below #[Value.ref b] s) (F0 m pc ls st) := by
  refine lw_call C hC x6 t6 A (fun {mc} {ms} hMet hroom => ?_) k
  obtain ⟨⟨y1, y2, y3, y6, hts, hK⟩, -⟩ := C
  obtain ⟨r, -, -, hlv, -, -⟩ := A
  have hM1 := hM.1
  have hws := z_ws hM.1
  rw [hr] at hM1 hws hMet
  exact va_runI (As := As) (rest := rest) (bytes := M'.2.1) (maxL := M'.2.2.1) (n := n) ⟨y1, y2, y3, y6, hts⟩ hMet ⟨⟨rfl, rfl, hf.1, hf.2, pay_in hts hws, List.mem_cons_self, hts _ hM1, hts _ hM.2.1, ⟨hM.2.2.1, hM.2.2.2.1⟩, z_len hM.2.2.2.2 rfl, hts _ hl⟩, hnm, hts _ hi⟩ ⟨z_blind, fun U e hW => z_pc hK r e hW⟩ rfl hn hlv.1 hst (lv_room hw) hd hroom
theorem lw_new {idx ci N x : Nat} (C : LawC p w s m meth c b L xs) (hd : decode cL_law pc = .ok (.new idx, 3)) (hF : zMk RL idx ci N) (hx : zx h = x) (x6 : zx h + 1 ≤ x0 + 600000) (t6 : zt h + N ≤ t0 + 7302250) (A : zAt w mLw s h H lv ls locs x0 t0)
    (k : ∀ H1, zAt w mLw s (zNw h ci N) H1 lv ls locs x0 t0 → W p l e room_1 s m #[Value.ref b] below meth c H1 locs (zx (zNw h ci N) - x0) (zt (zNw h ci N) - t0) (lw_Z below #[Value.ref b] s) (F0 m (pc + 3) ls (.ref x :: rest))) :
    W p l e room_1 s m #[Value.ref b] below meth c H locs (zx h - x0) (zt h - t0) (lw_Z below #[Value.ref b] s) (F0 m pc ls rest) := by
  subst hx
  obtain ⟨C0, T, ty0, ⟨c1, c2, c3, c4⟩, f1, f2, f3, f4⟩ := hF
  obtain ⟨⟨y1, y2, y3, y6, hts, hK⟩, -⟩ := C
  obtain ⟨r, a2, a3, a4, a5, a6⟩ := A
  have hKn := hK.1.1 ci _ c1
  refine W.newcK y1 y2 y6 (hts _ f1) (hts _ f2) (hts _ f3) rfl hd (show zx h - x0 + 1 ≤ 600000 by omega) (show zt h - t0 + N ≤ 7302250 by omega) hKn.2.1 r.1 fun H1 kC hkC e1 z1 o1 => ?_
  have r2 : zRel w s (zNw h ci N) H1 := by
    refine r.new z1 (fun q hq => o1 q hq) (fun r0 hr0 => ?_) (fun t ty q _ => (zcl_no c1 q).elim)
    have hr1 := Option.some.inj (c1.symm.trans hr0)
    subst hr1
    refine (u_born ty0 hts c2 hKn hkC e1 c3).to fun j hj => ?_
    rw [f4 j hj]
    simp only [zval, zl_Nw, zr_Nw, zi_Nw, if_pos rfl]
    rfl
  have kk := k H1 ⟨r2, fun q hq => (o1 q (by have := r.2.1; omega)).trans (a2 q hq), a3, a4, by rw [zx_Nw]; omega, by rw [zt_Nw]; omega⟩
  rw [zx_Nw, zt_Nw] at kk
  rw [show zx h - x0 + 1 = zx h + 1 - x0 by omega, show zt h - t0 + N = zt h + N - t0 by omega]
  exact kk
/-- the law's end -/
theorem lw_end (C : LawC p w s m meth c b L xs) (x6 : zx h ≤ x0 + 600000) (t6 : zt h ≤ t0 + 7302250) (A : zAt w mLw s h H lv ls locs x0 t0) : W p l e room_1 s m #[Value.ref b] below meth c H locs (zx h - x0) (zt h - t0) (lw_Z below #[Value.ref b] s) (F0 m 1201 ls []) := by
  obtain ⟨⟨y1, y2, y3, y6, hts, hK⟩, hX, hw, hr, hlk⟩ := C
  refine lv_iconst (v := 1) y1 y2 dL_law_1201 (by decide) ?_
  refine va_forget (fun q hq => by rw [← hw]; exact A.2.2.1 q hq) ?_
  refine W.widen (k := 600000) (n := 7302250) (by omega) (by omega) ?_
  exact lw_ret y1 y2 hr hlk dL_law_1202
end LAWr
