section ZG6
variable {l : Launch} {w : zW} {M : zMe} {pc : Nat} {lv : List (Nat × Value)} {rest : List Value} {h : zH} {Q : Option Value → zH → Prop}
/-- what the tables say of a method that is called -/
def zMOk (M : zMe) (n : Nat) : Prop := Cond.code M.1 M.2.1 M.2.2.1 M.2.2.2.1 ∈ lw_all ∧ Cond.initialized M.1.cls ∈ lw_all ∧ (M.1.cls ≠ "java/lang/invoke/MethodHandle" ∧ M.1.cls ≠ "java/lang/invoke/VarHandle" ∧ (parseMethodDescriptor M.1.desc).map (fun d => d.parameters.length) = some n)
def zFits (M M' : zMe) : Prop := M'.2.2.2.2.1 + 1 ≤ M.2.2.2.2.1 ∧ 8 + (M'.2.2.1 + 11) + M'.2.2.2.2.2 ≤ M.2.2.2.2.2
theorem z_ws {M : zMe} (h : Cond.code M.1 M.2.1 M.2.2.1 M.2.2.2.1 ∈ lw_all) : GoodIn lw_all (.code M.1 M.2.1 M.2.2.1 M.2.2.2.1 :: lw_all) := by
  have hg := lw_all_good (big := lw_all) (fun _ h => h)
  intro x hx
  rcases List.mem_cons.mp hx with rfl | hx
  · exact hg _ h
  · exact hg _ hx
theorem z_blind {av : List Value} : FrameBlind (va_Pc av (fun U => zK w U ∧ zRel w U h U.heap)) := fun a U g mk q => ⟨q.1, zK.moved (U := U.calling g mk a) (State.WarmedH.refl U) q.2.1, zRel.moved (U := U.calling g mk a) (Vm.Alike.refl U.vm) q.2.2⟩
theorem z_pc {s U : State} {H : Heap} {av : List Value} (hK : zK w s) (r : zRel w s h H) (e : U.heap = H) (hW : s.WarmedH U.vm) : va_Pc av (fun U => zK w U ∧ zRel w U h U.heap) av.toArray U := ⟨rfl, hK.moved hW, by rw [e]; exact r.moved hW.alike⟩
theorem zG.call {M' : zMe} {av st : List Value} {Q' : Option Value → zH → Prop} (hC : zM l w M' av h Q')
    (hrun : ∀ {p : Program} {e : Env} {s : State} {m : MethodId} {args : Array Value} {below : List Frame} {meth : Method} {c : Code} {c0 s0 : Nat} {H : Heap} {ls : Array Slot} {locs : List Loc} {cells slots mc ms : Nat} {v : Option Value} {h1 : zH}, zCtx w M p s m args meth c → zRel w s h H → lv_has ls M.2.2.1 lv →
      Met l M'.1 (.code M'.1 M'.2.1 M'.2.2.1 M'.2.2.2.1 :: lw_all) (zRm M' mc ms) (va_Pc av (fun U => zK w U ∧ zRel w U h U.heap)) (zQc w v h1) mc ms (fun q => w.2.2.1 ≤ q) → cells + mc ≤ c0 ∧ slots + ms ≤ s0 →
      va_Run p l e (zRm M c0 s0) s m args below meth c H locs cells slots mc ms (F0 m pc ls st) rest (zQc w v h1 av.toArray) (fun q => w.2.2.1 ≤ q))
    (k : ∀ v h1, Q' v h1 → zG l w M (pc + 3) lv (v.toList ++ rest) h1 Q) : zG l w M pc lv st h Q := by
  obtain ⟨v, h1, ⟨c1, c2, hM⟩, hq⟩ := hC
  obtain ⟨v', h', ⟨k1, k2, k3⟩, k4⟩ := k v h1 hq
  refine ⟨v', h', ⟨by omega, by omega, fun p e s m args below meth c x0 t0 H ls locs C A => ?_⟩, k4⟩
  obtain ⟨a1, a2, a3, a4, a5, a6⟩ := A
  intro T hT X
  obtain ⟨v2, st0, t, T', L, e0, X', hL, e1, e2, ⟨hv, hr, hlow⟩, go⟩ := hrun C a1 a4 hM ⟨by omega, by omega⟩ T hT X
  cases hv
  have r1 : zRel w s h1 T'.heap := by
    rw [e1]
    refine hr.moved ?_
    rw [← e2]
    exact X'.warmed.alike.symm
  rw [show zx h - x0 + (zx h1 - zx h) = zx h1 - x0 by omega, show zt h - t0 + (zt h1 - zt h) = zt h1 - t0 by omega] at X'
  obtain ⟨t2, s1, q1⟩ := k3 p e s m args below meth c x0 t0 T'.heap ls (locs ++ L) C ⟨r1, fun q hq => by rw [e1, hlow q hq, e0]; exact a2 q hq, fun q hq => by
    rcases List.mem_append.mp hq with hq | hq
    · exact a3 q hq
    · exact hL q hq, a4, by omega, by omega⟩ T' rfl X'
  exact ⟨t2, go t2 s1, q1⟩
theorem z_len {d : String} {n k : Nat} (h : (parseMethodDescriptor d).map (fun d => d.parameters.length) = some n) (hn : k = n) : ∀ sig, parseMethodDescriptor d = some sig → n = sig.parameters.length := by
  intro sig hs
  rw [hs] at h
  exact (Option.some.inj h).symm
theorem g_invv {M' : zMe} {idx ci n b : Nat} {As st : List Value} {T : u_T} {N : Nat} {C0 : String} {Q' : Option Value → zH → Prop} (hd : decode M.2.1 pc = .ok (.invokevirtual idx, 3)) (hl : Cond.methodLink M.1.cls idx M'.1 ∈ lw_all) (hM : zMOk M' n) (hi : Cond.instanceMethod M'.1 ∈ lw_all) (hs : Cond.selects M'.1.cls M'.1 M'.1 ∈ lw_all) (hf : zFits M M') (hcl : vwCl[ci]? = some (C0, T, N)) (hc0 : C0 = M'.1.cls) (hk : zk h b = ci) (hst : st = As.reverse ++ .ref b :: rest) (hn : As.length = n) (hw : (rest.map fun v => v.category).sum ≤ 8)
    (hC : zM l w M' (.ref b :: As) h Q') (k : ∀ v h1, Q' v h1 → zG l w M (pc + 3) lv (v.toList ++ rest) h1 Q) : zG l w M pc lv st h Q := by
  refine zG.call hC (fun {p} {e} {s} {m} {args} {below} {meth} {c} {c0} {s0} {H} {ls} {locs} {cells} {slots} {mc} {ms} {v} {h1} C r hlv hMet hroom => ?_) k
  obtain ⟨x1, x2, x3, x4, x5, x6, x7, hts, hK⟩ := C
  subst hk
  subst hc0
  obtain ⟨hB, cell, q1, q2, q3, q4⟩ := r.2.2.1 b _ hcl
  refine va_runV (C := M'.1.cls) (As := As) (rest := rest) (bytes := M'.2.1) (maxL := M'.2.2.1) (ret := M'.2.2.2.1) (n := n) ⟨x1, x2, x3, x6, hts⟩ hMet ⟨⟨rfl, rfl, hf.1, hf.2, pay_in hts (z_ws hM.1), List.mem_cons_self, hts _ hM.1, hts _ hM.2.1, ⟨hM.2.2.1, hM.2.2.2.1⟩, z_len hM.2.2.2.2 rfl, hts _ hl⟩, hts _ hi, hts _ hs⟩ ⟨z_blind, ⟨cell, q1, by rw [q3]; rfl, by rw [q2]; exact (hK.1.1 _ _ hcl).2.1⟩, fun U e hW => z_pc hK r e hW⟩ rfl hn hlv.1 hst (lv_room hw) hd hroom
theorem g_invs {M' : zMe} {idx n : Nat} {As st : List Value} {Q' : Option Value → zH → Prop} (hd : decode M.2.1 pc = .ok (.invokestatic idx, 3)) (hl : Cond.methodLink M.1.cls idx M'.1 ∈ lw_all) (hM : zMOk M' n) (hi : Cond.static M'.1 ∈ lw_all) (hf : zFits M M') (hst : st = As.reverse ++ rest) (hn : As.length = n) (hw : (rest.map fun v => v.category).sum ≤ 8)
    (hC : zM l w M' As h Q') (k : ∀ v h1, Q' v h1 → zG l w M (pc + 3) lv (v.toList ++ rest) h1 Q) : zG l w M pc lv st h Q := by
  refine zG.call hC (fun {p} {e} {s} {m} {args} {below} {meth} {c} {c0} {s0} {H} {ls} {locs} {cells} {slots} {mc} {ms} {v} {h1} C r hlv hMet hroom => ?_) k
  obtain ⟨x1, x2, x3, x4, x5, x6, x7, hts, hK⟩ := C
  refine va_runS (As := As) (rest := rest) (bytes := M'.2.1) (maxL := M'.2.2.1) (ret := M'.2.2.2.1) (n := n) ⟨x1, x2, x3, x6, hts⟩ hMet ⟨⟨rfl, rfl, hf.1, hf.2, pay_in hts (z_ws hM.1), List.mem_cons_self, hts _ hM.1, hts _ hM.2.1, ⟨hM.2.2.1, hM.2.2.2.1⟩, z_len hM.2.2.2.2 rfl, hts _ hl⟩, hts _ hi⟩ ⟨z_blind, fun U e hW => z_pc hK r e hW⟩ rfl hn hlv.1 hst (lv_room hw) hd hroom
theorem g_invi {M' : zMe} {idx n b : Nat} {As st : List Value} {Q' : Option Value → zH → Prop} (hd : decode M.2.1 pc = .ok (.invokespecial idx, 3)) (hl : Cond.methodLink M.1.cls idx M'.1 ∈ lw_all) (hM : zMOk M' n) (hi : Cond.instanceMethod M'.1 ∈ lw_all) (hnm : M'.1.name = "<init>") (hr : M'.2.2.2.1 = none) (hf : zFits M M') (hst : st = As.reverse ++ .ref b :: rest) (hn : As.length = n) (hw : (rest.map fun v => v.category).sum ≤ 8)
    (hC : zM l w M' (.ref b :: As) h Q') (k : ∀ v h1, Q' v h1 → zG l w M (pc + 3) lv (v.toList ++ rest) h1 Q) : zG l w M pc lv st h Q := by
  refine zG.call hC (fun {p} {e} {s} {m} {args} {below} {meth} {c} {c0} {s0} {H} {ls} {locs} {cells} {slots} {mc} {ms} {v} {h1} C r hlv hMet hroom => ?_) k
  obtain ⟨x1, x2, x3, x4, x5, x6, x7, hts, hK⟩ := C
  have hM1 := hM.1
  have hws := z_ws hM.1
  rw [hr] at hM1 hws hMet
  refine va_runI (As := As) (rest := rest) (bytes := M'.2.1) (maxL := M'.2.2.1) (n := n) ⟨x1, x2, x3, x6, hts⟩ hMet ⟨⟨rfl, rfl, hf.1, hf.2, pay_in hts hws, List.mem_cons_self, hts _ hM1, hts _ hM.2.1, ⟨hM.2.2.1, hM.2.2.2.1⟩, z_len hM.2.2.2.2 rfl, hts _ hl⟩, hnm, hts _ hi⟩ ⟨z_blind, fun U e hW => z_pc hK r e hW⟩ rfl hn hlv.1 hst (lv_room hw) hd hroom
theorem g_invn {M' : zMe} {idx n b : Nat} {As st : List Value} {host : String} {Q' : Option Value → zH → Prop} (hd : decode M.2.1 pc = .ok (.invokespecial idx, 3)) (hl : (M.1.cls, idx, M'.1, host) ∈ zNest) (hM : zMOk M' n) (hi : Cond.instanceMethod M'.1 ∈ lw_all) (hnm : M'.1.name = "<init>") (hr : M'.2.2.2.1 = none) (hf : zFits M M') (hst : st = As.reverse ++ .ref b :: rest) (hn : As.length = n) (hw : (rest.map fun v => v.category).sum ≤ 8)
    (hC : zM l w M' (.ref b :: As) h Q') (k : ∀ v h1, Q' v h1 → zG l w M (pc + 3) lv (v.toList ++ rest) h1 Q) : zG l w M pc lv st h Q := by
  refine zG.call hC (fun {p} {e} {s} {m} {args} {below} {meth} {c} {c0} {s0} {H} {ls} {locs} {cells} {slots} {mc} {ms} {v} {h1} C r hlv hMet hroom => ?_) k
  obtain ⟨x1, x2, x3, x4, x5, x6, x7, hts, hK⟩ := C
  have hM1 := hM.1
  have hws := z_ws hM.1
  rw [hr] at hM1 hws hMet
  refine va_runIN (As := As) (rest := rest) (bytes := M'.2.1) (maxL := M'.2.2.1) (n := n) (host := host) ⟨x1, x2, x3, x6, hts⟩ hMet ⟨⟨⟨rfl, rfl, hf.1, hf.2, pay_in hts hws, List.mem_cons_self⟩, hts _ hM1, hts _ hM.2.1, ⟨hM.2.2.1, hM.2.2.2.1⟩, z_len hM.2.2.2.2 rfl, va_Nw.use rfl (hK.2.2.1 _ hl)⟩, hnm, hts _ hi⟩ ⟨z_blind, fun U e hW => z_pc hK r e hW⟩ rfl hn hlv.1 hst (lv_room hw) hd hroom
/-- System.arraycopy between two rows of ints -/
theorem g_copyi {idx a0 a1 : Nat} {sp dp n : Int32} (hd : decode M.2.1 pc = .ok (.invokestatic idx, 3)) (hl : Cond.methodLink M.1.cls idx arraycopyName ∈ lw_all) (hnat : Cond.native arraycopyName ∈ lw_all) (hsta : Cond.static arraycopyName ∈ lw_all) (hini : Cond.initialized "java/lang/System" ∈ lw_all) (k0 : zk h a0 = 21) (k1 : zk h a1 = 21) (h1 : ¬ sp < 0) (h2 : ¬ dp < 0) (h3 : ¬ n < 0) (h4 : sp.toNatClampNeg + n.toNatClampNeg ≤ zn h a0) (h5 : dp.toNatClampNeg + n.toNatClampNeg ≤ zn h a1)
    (hf : 1 ≤ M.2.2.2.2.1) (hw : (rest.map fun v => v.category).sum + (nativeFrameWords "java/lang/System" "arraycopy" 5 + 11) ≤ M.2.2.2.2.2) (kk : zG l w M (pc + 3) lv rest (zSF h a1 (va_cpy (zI h a0) (zI h a1) sp.toNatClampNeg dp.toNatClampNeg n.toNatClampNeg)) Q) : zG l w M pc lv (.int n :: .int dp :: .ref a1 :: .int sp :: .ref a0 :: rest) h Q := by
  refine zG.chg (by rw [zx_SF]) (by rw [zt_SF]) (fun {p} {e} {s} {m} {args} {below} {meth} {c} {c0} {s0} {H} {ls} {locs} {cells} {slots} {Qf} C r hlv kk => ?_) kk
  obtain ⟨x1, x2, x3, x4, x5, x6, x7, hts, hK⟩ := C
  have nn : ∀ z : Int32, ¬ z < 0 → z.toInt = (z.toNatClampNeg : Int) := by
    intro z hz
    have hz0 : (0 : Int) ≤ z.toInt := by
      have := Int32.not_lt.mp hz
      simpa using Int32.le_iff_toInt_le.mp this
    show z.toInt = ((z.toInt.toNat : Nat) : Int)
    omega
  obtain ⟨hB0, hc0⟩ := r.2.2.2.1 a0 1 .int k0 rfl
  obtain ⟨hB1, hc1⟩ := r.2.2.2.1 a1 1 .int k1 rfl
  have ea : ∀ a, zarr w 1 h a = vp_cell (w.2.1 1) (zn h a, .inl (zI h a)) := fun a => rfl
  rw [ea] at hc0 hc1
  have hK1 := hK.1.2 1 (w.2.1 1, .int) rfl
  intro T hT X
  obtain ⟨-, q0, hk0, cm0, hkk0⟩ := hK1.1 (zn h a0) (fun j => .int (zI h a0 j))
  obtain ⟨-, q1, hk1, cm1, hkk1⟩ := hK1.1 (zn h a1) (fun j => .int (zI h a1 j))
  obtain ⟨vm', X', step⟩ := X.arraycopy x1 x6 (hts _ hl) (hts _ hnat) (hts _ hsta) (hts _ hini) (src := a0) (dst := a1) (cs := vp_cell (w.2.1 1) (zn h a0, .inl (zI h a0))) (cd := vp_cell (w.2.1 1) (zn h a1, .inl (zI h a1))) (srcPos := sp) (destPos := dp) (n := n) (by rw [hT]; exact hc0) (by rw [hT]; exact hc1)
    (fun _ h => by cases h) (fun _ h => by cases h) (fun h => by cases h) (fun h => by cases h) hk0 hk1 hkk0 hkk1 (by simp [refKind]) h1 h2 h3
    (by rw [nn sp h1, nn n h3]; show ¬ _ > ((arrV _ (zn h a0) (fun j => .int (zI h a0 j))).slots.size : Int); rw [arrV_size]; omega)
    (by rw [nn dp h2, nn n h3]; show ¬ _ > ((arrV _ (zn h a1) (fun j => .int (zI h a1 j))).slots.size : Int); rw [arrV_size]; omega)
    (fun vm₁ _ i hi => by
      have e : (vp_cell (w.2.1 1) (zn h a0, .inl (zI h a0))).slots.getD (sp.toNatClampNeg + i) .null = .int (zI h a0 (sp.toNatClampNeg + i)) := by
        show (arrV (w.2.1 1) (zn h a0) (fun j => .int (zI h a0 j))).slots.getD _ _ = _
        rw [Array.getD_eq_getD_getElem?, arrV_read _ _ (by omega)]
        rfl
      refine ⟨?_, ?_⟩
      · rw [e]
        rfl
      · rw [e]
        exact trivial)
    (g := F0 m pc ls (.int n :: .int dp :: .ref a1 :: .int sp :: .ref a0 :: rest)) rfl (by rw [x3]; exact hlv.1) (rest := rest) rfl (by rw [x2]; exact hd) hf (by show 2 * 0 + _ + _ ≤ M.2.2.2.2.2; omega)
  have e1 : copied (vp_cell (w.2.1 1) (zn h a0, .inl (zI h a0))) (vp_cell (w.2.1 1) (zn h a1, .inl (zI h a1))) sp dp n = vp_cell (w.2.1 1) (zn h a1, .inl (va_cpy (zI h a0) (zI h a1) sp.toNatClampNeg dp.toNatClampNeg n.toNatClampNeg)) := va_copied (fun z => .int z) _ _ _ _ h4
  rw [e1] at X' step
  have hl : a1 < H.size := (Array.getElem?_eq_some_iff.mp hc1).1
  generalize hcell : vp_cell (w.2.1 1) (zn h a1, .inl (va_cpy (zI h a0) (zI h a1) sp.toNatClampNeg dp.toNatClampNeg n.toNatClampNeg)) = cell at X' step
  have hheap : ((T.setVm vm').setCell a1 cell).heap = H.setIfInBounds a1 cell := by rw [← hT]; rfl
  have oq : ∀ q : Nat, q ≠ a1 → (H.setIfInBounds a1 cell)[q]? = H[q]? := fun q hq => by simp [Array.getElem?_setIfInBounds, Ne.symm hq]
  obtain ⟨t, b1, b2⟩ := kk (H.setIfInBounds a1 cell) _ ls (z_ast (t := 1) r k1 rfl (by simp) oq (by
      rw [show (H.setIfInBounds a1 cell)[a1]? = some cell by simp [Array.getElem?_setIfInBounds, hl], ← hcell]
      have e2 : zI (zSF h a1 (va_cpy (zI h a0) (zI h a1) sp.toNatClampNeg dp.toNatClampNeg n.toNatClampNeg)) a1 = va_cpy (zI h a0) (zI h a1) sp.toNatClampNeg dp.toNatClampNeg n.toNatClampNeg := funext fun j => by rw [zI_SF, if_pos rfl]
      rw [zarr, zcon, if_neg (by omega), if_neg (by omega), e2]
      rfl) rfl (fun _ => rfl) z_sF) (fun q hq => oq q (by omega)) (fun hh q hq => by
      rcases List.mem_append.mp hq with hq | hq
      · exact hh q hq
      · obtain ⟨z, -, hz⟩ := List.mem_map.mp hq
        rw [← hz]
        exact hB1) hlv _ hheap X'
  exact ⟨t, step t b1, b2⟩
end ZG6
