section ZG5
variable {l : Launch} {w : zW} {M : zMe} {pc : Nat} {lv : List (Nat × Value)} {rest : List Value} {h : zH} {Q : Option Value → zH → Prop}
/-- an object into a row of references -/
theorem g_aast {a b n t ci : Nat} {i : Int32} {C : String} {T : u_T} {N : Nat} (hd : decode M.2.1 pc = .ok (.aastore, 1)) (hk : zk h a = 20 + t) (ht : ztys[t]? = some (.object C)) (ht2 : ∀ w : zW, (ztyl w)[t]? = some (w.2.1 t, .object C)) (h4 : 4 ≤ t) (hb : zk h b = ci) (hc : vwCl[ci]? = some (C, T, N)) (hi : vp_in i (zn h a)) (hn : i.toNatClampNeg = n) (kk : zG l w M (pc + 1) lv rest (zSR h a n (some b)) Q) : zG l w M pc lv (.ref b :: .int i :: .ref a :: rest) h Q := by
  subst hn
  refine zG.chg (by rw [zx_SR]) (by rw [zt_SR]) (fun {p} {e} {s} {m} {args} {below} {meth} {c} {c0} {s0} {H} {ls} {locs} {cells} {slots} {Qf} C r h1 kk => ?_) kk
  obtain ⟨hB, hcell⟩ := r.2.2.2.1 a t _ hk ht
  subst hb
  obtain ⟨-, cv, g1, g2, g3, -⟩ := r.2.2.1 b _ hc
  have hlt : i.toNatClampNeg < zn h a := Nat.not_le.mp fun q => hi (Or.inr q)
  have h0 : ¬ i < 0 := fun q => hi (Or.inl q)
  have hK := C.2.2.2.2.2.2.2.2.1
  have hcls := (hK.1 _ _ hc).2
  obtain ⟨kA, comp, k1, k2, k3, -⟩ := (hK.2 t _ (ht2 w)).2
  have hcomp : comp = w.1.1 (zk h b) := Option.some.inj (k3.symm.trans hcls.1)
  subst hcomp
  obtain ⟨kC, hkC, -⟩ := hcls.2
  have e1 : zarr w t h a = arrV (w.2.1 t) (zn h a) (fun j => va_rf (zR h a j)) := by rw [zarr, zcon, if_neg (by omega), if_pos h4, vp_cell_q]
  rw [e1] at hcell
  refine W.aast C.1 C.2.1 hcell (fun q h => by cases h) (fun h => by cases h) k1 k2 rfl hkC ⟨h0, by rw [arrV_size]; exact hlt⟩ g1 (fun q h => by rw [g3] at h; cases h) (by rw [g2]; exact hkC) (by rw [g2]; exact va_assign hcls) rfl rfl hd fun H1 e1 e2 e3 => kk H1 _ _ ?_ (z_low (s := s) hB e3) (z_locs hB _) h1
  refine z_ast r hk ht e2 e3 ?_ rfl (fun _ => rfl) z_sR
  rw [e1, z_arrR h4]
  exact congrArg some (arrV_store _ _ _ _ _)
/-- a row that makes a cell -/
theorem zG.mk {pc2 : Nat} {st st2 : List Value} {kd n : Nat}
    (hW : ∀ {p : Program} {e : Env} {s : State} {m : MethodId} {args : Array Value} {below : List Frame} {meth : Method} {c : Code} {cells0 slots0 : Nat} {H : Heap} {ls : Array Slot} {locs : List Loc} {cells slots : Nat} {Qf : State → Prop}, zCtx w M p s m args meth c → zRel w s h H → lv_has ls M.2.2.1 lv → cells + 1 ≤ cells0 → slots + n ≤ slots0 →
      (∀ (H2 : Heap), zRel w s (zNw h kd n) H2 → (∀ q : Nat, q < w.2.2.1 → H2[q]? = H[q]?) → W p l e (zRm M cells0 slots0) s m args below meth c H2 locs (cells + 1) (slots + n) Qf (F0 m pc2 ls st2)) → W p l e (zRm M cells0 slots0) s m args below meth c H locs cells slots Qf (F0 m pc ls st))
    (k : zG l w M pc2 lv st2 (zNw h kd n) Q) : zG l w M pc lv st h Q := by
  obtain ⟨v, h', ⟨k1, k2, k3⟩, k4⟩ := k
  rw [zx_Nw] at k1
  rw [zt_Nw] at k2
  refine ⟨v, h', ⟨by omega, by omega, fun p e s m args below meth c x0 t0 H ls locs C A => ?_⟩, k4⟩
  obtain ⟨a1, a2, a3, a4, a5, a6⟩ := A
  refine hW C a1 a4 (by omega) (by omega) fun H2 r2 e2 => ?_
  have := k3 p e s m args below meth c x0 t0 H2 ls locs C ⟨r2, fun q hq => (e2 q hq).trans (a2 q hq), a3, a4, by rw [zx_Nw]; omega, by rw [zt_Nw]; omega⟩
  rw [zx_Nw, zt_Nw] at this
  rw [show zx h - x0 + 1 = zx h + 1 - x0 by omega, show zt h - t0 + n = zt h + n - t0 by omega]
  exact this
/-- a class that can be made -/
def zMk (own : String) (idx ci N : Nat) : Prop := ∃ (C : String) (T : u_T) (ty0 : Nat → FieldType), zCls ci C T N ty0 ∧ Cond.classLink own idx C ∈ lw_all ∧ Cond.instantiable C N ∈ lw_all ∧ Cond.initialized C ∈ lw_all ∧ ∀ k, k < N → defaultValue (ty0 k) = (if ztc ci k = 1 then .long 0 else if ztc ci k = 2 then .null else .int 0)
theorem g_new {idx ci N x : Nat} (hd : decode M.2.1 pc = .ok (.new idx, 3)) (hF : zMk M.1.cls idx ci N) (hx : zx h = x) (kk : zG l w M (pc + 3) lv (.ref x :: rest) (zNw h ci N) Q) : zG l w M pc lv rest h Q := by
  subst hx
  refine zG.mk (fun {p} {e} {s} {m} {args} {below} {meth} {c} {c0} {s0} {H} {ls} {locs} {cells} {slots} {Qf} C r h1 hc hs kk => ?_) kk
  obtain ⟨C0, T, ty0, ⟨c1, c2, c3, c4⟩, f1, f2, f3, f4⟩ := hF
  obtain ⟨x1, x2, x3, x4, x5, x6, x7, hts, hK⟩ := C
  have hKn := hK.1.1 ci _ c1
  refine W.newcK x1 x2 x6 (hts _ f1) (hts _ f2) (hts _ f3) rfl hd hc hs hKn.2.1 r.1 fun H1 kC hkC e1 z1 o1 => ?_
  refine kk H1 (r.new z1 (fun q hq => o1 q hq) (fun r0 hr0 => ?_) (fun t ty q _ => (zcl_no c1 q).elim)) (fun q hq => o1 q (by have := r.2.1; omega))
  have hr1 := Option.some.inj (c1.symm.trans hr0)
  subst hr1
  refine (u_born ty0 hts c2 hKn hkC e1 c3).to fun j hj => ?_
  rw [f4 j hj]
  simp only [zval, zl_Nw, zr_Nw, zi_Nw, if_pos rfl]
  rfl
theorem z_sameA {s : State} {w : zW} {t : Nat} {ty : FieldType} {cA : ClassId} (hK : zK w s) (ht2 : ∀ w : zW, (ztyl w)[t]? = some (w.2.1 t, ty)) (hf : s.vm.findClass ("[" ++ ty.toString) = some cA) : cA = w.2.1 t := by
  have h2 : va_RA s (w.2.1 t) ty := (hK.1.2 t _ (ht2 w)).2
  have h3 : s.vm.findClass ("[" ++ ty.toString) = some (w.2.1 t) := by
    cases ty with
    | object C =>
      obtain ⟨_, _, _, _, _, z⟩ := h2
      exact z
    | _ => exact h2
  exact Option.some.inj (hf.symm.trans h3)
theorem g_newa {t x N : Nat} {ty : FieldType} {n : Int32} {atype : ArrayType} (hd : decode M.2.1 pc = .ok (.newarray atype, 2)) (hty : newarray.typeOf atype = ty) (hA : Cond.arrayClass ty ∈ lw_all) (ht : ztys[t]? = some ty) (h4 : t < 4) (ht2 : ∀ w : zW, (ztyl w)[t]? = some (w.2.1 t, ty)) (hn : ¬ n < 0) (hN : n.toNatClampNeg = N) (hb : N * componentBytes ty ≤ 536870912) (hx : zx h = x)
    (kk : zG l w M (pc + 2) lv (.ref x :: rest) (zNw h (20 + t) N) Q) : zG l w M pc lv (.int n :: rest) h Q := by
  subst hx
  subst hty
  refine zG.mk (fun {p} {e} {s} {m} {args} {below} {meth} {c} {c0} {s0} {H} {ls} {locs} {cells} {slots} {Qf} C r h1 hc hs kk => ?_) kk
  obtain ⟨x1, x2, x3, x4, x5, x6, x7, hts, hK⟩ := C
  refine va_newaK x1 x2 (hts _ hA) rfl hd rfl hn hN hb hc hs r.1 fun H1 cA e1 z1 o1 hAr hNm => ?_
  refine kk H1 (r.new z1 (fun q hq => o1 q hq) (fun r0 hr0 => (zcl_no hr0 rfl).elim) (fun t' ty' q hq => ?_)) (fun q hq => o1 q (by have := r.2.1; omega))
  have : t' = t := by omega
  subst this
  rw [e1, z_sameA hK ht2 hNm]
  have hn : zn (zNw h (20 + t') N) (zx h) = N := by rw [zn_Nw, if_pos rfl]
  have hI : zI (zNw h (20 + t') N) (zx h) = fun _ => 0 := funext fun i => by rw [zI_Nw, if_pos rfl]
  have hL : zL (zNw h (20 + t') N) (zx h) = fun _ => 0 := funext fun i => by rw [zL_Nw, if_pos rfl]
  rw [zarr, zcon, hn, hI, hL]
  have h5 : t' = 0 ∨ t' = 1 ∨ t' = 2 ∨ t' = 3 := by omega
  rcases h5 with rfl | rfl | rfl | rfl
  · rw [← Option.some.inj ht]; rfl
  · rw [← Option.some.inj ht]; rfl
  · rw [← Option.some.inj ht]; rfl
  · rw [← Option.some.inj ht]; rfl
theorem g_newq {idx t x N : Nat} {n : Int32} {C : String} (hd : decode M.2.1 pc = .ok (.anewarray idx, 3)) (hl : Cond.classLink M.1.cls idx C ∈ lw_all) (hA : ∀ {w : zW} {s : State}, zK w s → va_AO C s) (ht : ztys[t]? = some (.object C)) (h4 : 4 ≤ t) (ht2 : ∀ w : zW, (ztyl w)[t]? = some (w.2.1 t, .object C)) (hn : ¬ n < 0) (hN : n.toNatClampNeg = N) (hb : N * 4 ≤ 536870912) (hx : zx h = x)
    (kk : zG l w M (pc + 3) lv (.ref x :: rest) (zNw h (20 + t) N) Q) : zG l w M pc lv (.int n :: rest) h Q := by
  subst hx
  subst hN
  refine zG.mk (fun {p} {e} {s} {m} {args} {below} {meth} {c} {c0} {s0} {H} {ls} {locs} {cells} {slots} {Qf} C r h1 hc hs kk => ?_) kk
  obtain ⟨x1, x2, x3, x4, x5, x6, x7, hts, hK⟩ := C
  refine W.anew x1 x2 x6 (hts _ hl) (va_AO.use (hA hK)) rfl hd rfl hn hb hc hs fun cA kA comp f1 f2 f3 f4 => ?_
  have r1 := r.1
  rw [r1]
  refine kk _ (r.new (by simp [r1]) (fun q hq => by rw [Array.getElem?_push, if_neg (by omega)]) (fun r0 hr0 => (zcl_no hr0 rfl).elim) (fun t' ty' q hq => ?_)) (fun q hq => by have := r.2.1; rw [Array.getElem?_push, if_neg (by omega)])
  have : t' = t := by omega
  subst this
  rw [← r1, Array.getElem?_push_size, z_sameA hK ht2 f1, r1]
  have hn : zn (zNw h (20 + t') n.toNatClampNeg) (zx h) = n.toNatClampNeg := by rw [zn_Nw, if_pos rfl]
  have hR : zR (zNw h (20 + t') n.toNatClampNeg) (zx h) = fun _ => none := funext fun i => by rw [zR_Nw, if_pos rfl]
  rw [zarr, zcon, hn, hR, if_neg (by omega), if_pos h4, vp_cell_q]
  show _ = some (arrV _ _ (fun _ => Value.null))
  rw [← arrV_new]
theorem g_objInit {idx a : Nat} (hd : decode M.2.1 pc = .ok (.invokespecial idx, 3)) (hl : Cond.methodLink M.1.cls idx Lib.objectInit ∈ lw_all) (hi : Cond.instanceMethod Lib.objectInit ∈ lw_all) (hc : Cond.code Lib.objectInit ⟨#[0xb1]⟩ 1 none ∈ lw_all) (hf : 1 ≤ M.2.2.2.2.1) (hr : 2 * 0 + (rest.map fun v => v.category).sum + 12 ≤ M.2.2.2.2.2) (kk : zG l w M (pc + 3) lv rest h Q) : zG l w M pc lv (.ref a :: rest) h Q :=
  zG.chg rfl rfl (fun {p} {e} {s} {m} {args} {below} {meth} {c} {c0} {s0} {H} {ls} {locs} {cells} {slots} {Qf} C r h1 kk =>
    W.objInit C.1 C.2.1 C.2.2.2.2.2.1 (C.2.2.2.2.2.2.2.1 _ hl) (C.2.2.2.2.2.2.2.1 _ hi) (C.2.2.2.2.2.2.2.1 _ hc) rfl (by rw [C.2.2.1]; exact h1.1) rfl hd hf hr (kk H locs ls r (fun _ _ => rfl) (fun x => x) h1)) kk
theorem g_ldc {idx : Nat} {v : Int32} (hd : decode M.2.1 pc = .ok (.ldc idx, 2)) (hc : Cond.constant M.1.cls idx v ∈ lw_all) (kk : zG l w M (pc + 2) lv (.int v :: rest) h Q) : zG l w M pc lv rest h Q :=
  zG.go (fun C _ h1 kk => lv_ldc C.1 C.2.1 C.2.2.2.2.2.1 (C.2.2.2.2.2.2.2.1 _ hc) hd (kk _ h1)) kk
theorem g_ldc2 {idx : Nat} {v : Int64} (hd : decode M.2.1 pc = .ok (.ldc2_w idx, 3)) (hc : Cond.constantLong M.1.cls idx v ∈ lw_all) (kk : zG l w M (pc + 3) lv (.long v :: rest) h Q) : zG l w M pc lv rest h Q :=
  zG.go (fun C _ h1 kk => lv_ldc2 C.1 C.2.1 C.2.2.2.2.2.1 (C.2.2.2.2.2.2.2.1 _ hc) hd (kk _ h1)) kk
theorem g_ldcS {idx i : Nat} {tx : String} (hd : decode M.2.1 pc = .ok (.ldc idx, 2)) (hs : zStr[i]? = some (M.1.cls, idx, tx)) (kk : zG l w M (pc + 2) lv (.ref (w.2.2.2.1 i) :: rest) h Q) : zG l w M pc lv rest h Q :=
  zG.go (fun C _ h1 kk => va_ldcS C.1 C.2.1 C.2.2.2.2.2.1 (C.2.2.2.2.2.2.2.2.2.2.2 i _ hs) hd (kk _ h1)) kk
end ZG5
