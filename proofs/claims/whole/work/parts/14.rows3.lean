section ZG4
variable {l : Launch} {w : zW} {M : zMe} {pc : Nat} {lv : List (Nat × Value)} {rest : List Value} {h : zH} {Q : Option Value → zH → Prop}
theorem z_ne {ci k j : Nat} (hj : j ≠ k) : ¬ (32 * ci + j = 32 * ci + k) := by omega
/-- who may be written: a field that is not final, or any in the class's own constructor -/
def zMay (M : zMe) (ci : Nat) (fin : Bool) : Prop := fin = false ∨ (M.1.name = "<init>" ∧ (∀ C T N, vwCl[ci]? = some (C, T, N) → M.1.cls = C))
theorem g_puti {idx ci k f a : Nat} {fin : Bool} {x : Int32} (hd : decode M.2.1 pc = .ok (.putfield idx, 3)) (hF : zFld M.1.cls idx ci k 0 fin) (hm : zMay M ci fin) (hk : zk h a = ci) (hf : 32 * ci + k = f) (kk : zG l w M (pc + 3) lv rest (zSi h f a x) Q) : zG l w M pc lv (.int x :: .ref a :: rest) h Q := by
  subst hf
  refine z_put hd hF hk hm ?_ (by rw [zx_Si]) (by rw [zt_Si]) (fun b => by rw [zk_Si]) (fun b hb => ?_) ?_ ?_ kk
  · rintro ty (⟨-, rfl⟩ | ⟨h0, -⟩ | ⟨h0, -⟩ | ⟨h0, -⟩)
    · exact ⟨rfl, rfl⟩
    all_goals omega
  · exact ⟨fun f => by rw [zi_Si, if_neg (fun q => hb q.2)], fun f => by rw [zl_Si], fun f => by rw [zr_Si], fun i => by rw [zI_Si], fun i => by rw [zL_Si], fun i => by rw [zR_Si], by rw [zn_Si]⟩
  · simp only [zval, zi_Si, and_self, if_pos]
    rfl
  · intro j hj t
    simp [zval, zl_Si, zr_Si, zi_Si, hj]
theorem g_putz {idx ci k f a : Nat} {fin : Bool} {x : Int32} (hd : decode M.2.1 pc = .ok (.putfield idx, 3)) (hF : zFld M.1.cls idx ci k 3 fin) (hm : zMay M ci fin) (hk : zk h a = ci) (hf : 32 * ci + k = f) (hx : x = 0 ∨ x = 1) (kk : zG l w M (pc + 3) lv rest (zSi h f a x) Q) : zG l w M pc lv (.int x :: .ref a :: rest) h Q := by
  subst hf
  refine z_put hd hF hk hm ?_ (by rw [zx_Si]) (by rw [zt_Si]) (fun b => by rw [zk_Si]) (fun b hb => ?_) ?_ ?_ kk
  · rintro ty (⟨h0, -⟩ | ⟨h0, -⟩ | ⟨-, rfl⟩ | ⟨h0, -⟩)
    · omega
    · omega
    · rcases hx with rfl | rfl <;> exact ⟨by decide, by decide⟩
    · omega
  · exact ⟨fun f => by rw [zi_Si, if_neg (fun q => hb q.2)], fun f => by rw [zl_Si], fun f => by rw [zr_Si], fun i => by rw [zI_Si], fun i => by rw [zL_Si], fun i => by rw [zR_Si], by rw [zn_Si]⟩
  · simp only [zval, zi_Si, and_self, if_pos]
    rfl
  · intro j hj t
    simp [zval, zl_Si, zr_Si, zi_Si, hj]
theorem g_putl {idx ci k f a : Nat} {fin : Bool} {x : Int64} (hd : decode M.2.1 pc = .ok (.putfield idx, 3)) (hF : zFld M.1.cls idx ci k 1 fin) (hm : zMay M ci fin) (hk : zk h a = ci) (hf : 32 * ci + k = f) (kk : zG l w M (pc + 3) lv rest (zSl h f a x) Q) : zG l w M pc lv (.long x :: .ref a :: rest) h Q := by
  subst hf
  refine z_put hd hF hk hm ?_ (by rw [zx_Sl]) (by rw [zt_Sl]) (fun b => by rw [zk_Sl]) (fun b hb => ?_) ?_ ?_ kk
  · rintro ty (⟨h0, -⟩ | ⟨-, rfl⟩ | ⟨h0, -⟩ | ⟨h0, -⟩)
    · omega
    · exact ⟨rfl, rfl⟩
    all_goals omega
  · exact ⟨fun f => by rw [zi_Sl], fun f => by rw [zl_Sl, if_neg (fun q => hb q.2)], fun f => by rw [zr_Sl], fun i => by rw [zI_Sl], fun i => by rw [zL_Sl], fun i => by rw [zR_Sl], by rw [zn_Sl]⟩
  · simp only [zval, zl_Sl, and_self, if_pos]
  · intro j hj t
    simp [zval, zl_Sl, zr_Sl, zi_Sl, hj]
theorem z_putr {idx ci k f a : Nat} {fin : Bool} {x : Option Nat} (hd : decode M.2.1 pc = .ok (.putfield idx, 3)) (hF : zFld M.1.cls idx ci k 2 fin) (hm : zMay M ci fin) (hk : zk h a = ci) (hf : 32 * ci + k = f) (kk : zG l w M (pc + 3) lv rest (zSr h f a x) Q) : zG l w M pc lv (va_rf x :: .ref a :: rest) h Q := by
  subst hf
  refine z_put hd hF hk hm ?_ (by rw [zx_Sr]) (by rw [zt_Sr]) (fun b => by rw [zk_Sr]) (fun b hb => ?_) ?_ ?_ kk
  · rintro ty (⟨h0, -⟩ | ⟨h0, -⟩ | ⟨h0, -⟩ | ⟨-, ⟨n, rfl⟩ | ⟨t, rfl⟩⟩)
    · omega
    · omega
    · omega
    · cases x <;> exact ⟨rfl, rfl⟩
    · cases x <;> exact ⟨rfl, rfl⟩
  · exact ⟨fun f => by rw [zi_Sr], fun f => by rw [zl_Sr], fun f => by rw [zr_Sr, if_neg (fun q => hb q.2)], fun i => by rw [zI_Sr], fun i => by rw [zL_Sr], fun i => by rw [zR_Sr], by rw [zn_Sr]⟩
  · show va_rf (zr _ _ _) = _
    rw [zr_Sr, if_pos ⟨rfl, rfl⟩]
  · intro j hj t
    simp [zval, zl_Sr, zr_Sr, zi_Sr, hj]
theorem g_putr {idx ci k f a b : Nat} {fin : Bool} (hd : decode M.2.1 pc = .ok (.putfield idx, 3)) (hF : zFld M.1.cls idx ci k 2 fin) (hm : zMay M ci fin) (hk : zk h a = ci) (hf : 32 * ci + k = f) (kk : zG l w M (pc + 3) lv rest (zSr h f a (some b)) Q) : zG l w M pc lv (.ref b :: .ref a :: rest) h Q := z_putr (x := some b) hd hF hm hk hf kk
theorem g_putrN {idx ci k f a : Nat} {fin : Bool} (hd : decode M.2.1 pc = .ok (.putfield idx, 3)) (hF : zFld M.1.cls idx ci k 2 fin) (hm : zMay M ci fin) (hk : zk h a = ci) (hf : 32 * ci + k = f) (kk : zG l w M (pc + 3) lv rest (zSr h f a none) Q) : zG l w M pc lv (.null :: .ref a :: rest) h Q := z_putr (x := none) hd hF hm hk hf kk
/-! rows -/
theorem z_aP {s : State} {H : Heap} {a t : Nat} {ty : FieldType} (r : zRel w s h H) (hk : zk h a = 20 + t) (ht : ztys[t]? = some ty) : va_P w.1 vwCl [(a, .inl (w.2.1 t, zn h a, zcon t h a))] H := by
  intro k q hq
  cases k with
  | zero => cases hq; exact (r.2.2.2.1 a t ty hk ht).2
  | succ k => simp at hq
theorem g_alen {a t : Nat} {ty : FieldType} {v : Int32} (hd : decode M.2.1 pc = .ok (.arraylength, 1)) (hk : zk h a = 20 + t) (ht : ztys[t]? = some ty) (ht2 : ∀ w : zW, (ztyl w)[t]? = some (w.2.1 t, ty)) (hv : Int32.ofNat (zn h a) = v) (kk : zG l w M (pc + 1) lv (.int v :: rest) h Q) : zG l w M pc lv (.ref a :: rest) h Q :=
  zG.go (fun C r h1 kk => va_alen C.1 C.2.1 C.2.2.2.2.2.2.2.2.1 (z_aP r hk ht) 0 t rfl (ht2 w) hv hd (kk _ h1)) kk
theorem g_iald {a : Nat} {i : Int32} (hd : decode M.2.1 pc = .ok (.iaload, 1)) (hk : zk h a = 21) (hi : vp_in i (zn h a)) (kk : zG l w M (pc + 1) lv (.int (zI h a i.toNatClampNeg) :: rest) h Q) : zG l w M pc lv (.int i :: .ref a :: rest) h Q :=
  zG.go (fun C r h1 kk => va_iald C.1 C.2.1 C.2.2.2.2.2.2.2.2.1 (z_aP (t := 1) r hk rfl) 0 1 rfl rfl hi hd (kk _ h1)) kk
theorem g_bald {a : Nat} {i : Int32} (hd : decode M.2.1 pc = .ok (.baload, 1)) (hk : zk h a = 20) (hi : vp_in i (zn h a)) (kk : zG l w M (pc + 1) lv (.int (zI h a i.toNatClampNeg) :: rest) h Q) : zG l w M pc lv (.int i :: .ref a :: rest) h Q :=
  zG.go (fun C r h1 kk => va_bald C.1 C.2.1 C.2.2.2.2.2.2.2.2.1 (z_aP (t := 0) r hk rfl) 0 0 rfl rfl hi hd (kk _ h1)) kk
theorem g_zald {a : Nat} {i : Int32} (hd : decode M.2.1 pc = .ok (.baload, 1)) (hk : zk h a = 23) (hi : vp_in i (zn h a)) (kk : zG l w M (pc + 1) lv (.int (zI h a i.toNatClampNeg) :: rest) h Q) : zG l w M pc lv (.int i :: .ref a :: rest) h Q :=
  zG.go (fun C r h1 kk => va_zald C.1 C.2.1 C.2.2.2.2.2.2.2.2.1 (z_aP (t := 3) r hk rfl) 0 3 rfl rfl hi hd (kk _ h1)) kk
theorem g_lald {a : Nat} {i : Int32} (hd : decode M.2.1 pc = .ok (.laload, 1)) (hk : zk h a = 22) (hi : vp_in i (zn h a)) (kk : zG l w M (pc + 1) lv (.long (zL h a i.toNatClampNeg) :: rest) h Q) : zG l w M pc lv (.int i :: .ref a :: rest) h Q :=
  zG.go (fun C r h1 kk => va_lald C.1 C.2.1 C.2.2.2.2.2.2.2.2.1 (z_aP (t := 2) r hk rfl) 0 2 rfl rfl hi hd (kk _ h1)) kk
theorem g_aald {a t : Nat} {i : Int32} {b : Nat} {D : String} (hd : decode M.2.1 pc = .ok (.aaload, 1)) (hk : zk h a = 20 + t) (ht : ztys[t]? = some (.object D)) (ht2 : ∀ w : zW, (ztyl w)[t]? = some (w.2.1 t, .object D)) (h4 : 4 ≤ t) (hi : vp_in i (zn h a)) (hv : zR h a i.toNatClampNeg = some b) (kk : zG l w M (pc + 1) lv (.ref b :: rest) h Q) : zG l w M pc lv (.int i :: .ref a :: rest) h Q := by
  refine zG.go (fun {p} {e} {s} {m} {args} {below} {meth} {c} {R} {H} {ls} {locs} {cells} {slots} {Qf} C r h1 kk => ?_) kk
  have hP := z_aP r hk ht
  have e1 : zcon t h a = .inr (.inr (.inr (.inr (zR h a)))) := by rw [zcon, if_neg (by omega), if_pos h4]
  rw [e1] at hP
  refine va_aldq C.1 C.2.1 C.2.2.2.2.2.2.2.2.1 hP 0 t rfl (ht2 w) hi hd ?_
  rw [hv]
  exact kk _ h1
theorem z_low {s : State} {H H' : Heap} {a : Nat} (hB : w.2.2.1 ≤ a) (e3 : ∀ q, q ≠ a → H'[q]? = H[q]?) : ∀ q : Nat, q < w.2.2.1 → H'[q]? = H[q]? := fun q hq => e3 q (by omega)
theorem z_locs {a i : Nat} (hB : w.2.2.1 ≤ a) (locs : List Loc) : (∀ q ∈ locs, w.2.2.1 ≤ q.base) → ∀ q ∈ locs ++ [⟨a, i⟩], w.2.2.1 ≤ q.base := by
  intro hl q hq
  rcases List.mem_append.mp hq with hq | hq
  · exact hl q hq
  · rw [List.mem_singleton.mp hq]
    exact hB
theorem z_ast {s : State} {H H' : Heap} {a t : Nat} {ty : FieldType} {h2 : zH} (r : zRel w s h H) (hk : zk h a = 20 + t) (ht : ztys[t]? = some ty) (e2 : H'.size = H.size) (e3 : ∀ q, q ≠ a → H'[q]? = H[q]?) (e1 : H'[a]? = some (zarr w t h2 a)) (hx : zx h2 = zx h) (hkk : ∀ b, zk h2 b = zk h b)
    (hs : ∀ b, b ≠ a → (∀ f, zi h2 f b = zi h f b) ∧ (∀ f, zl h2 f b = zl h f b) ∧ (∀ f, zr h2 f b = zr h f b) ∧ (∀ i, zI h2 b i = zI h b i) ∧ (∀ i, zL h2 b i = zL h b i) ∧ (∀ i, zR h2 b i = zR h b i) ∧ zn h2 b = zn h b) : zRel w s h2 H' :=
  r.set (r.2.2.2.1 a t ty hk ht).1 e2 e3 hx hkk hs (fun _ hr => (zcl_no hr hk).elim) (fun t' ty' q _ => by
    have : t' = t := by omega
    subst this
    exact e1)
theorem z_sI {a i : Nat} {x : Int32} (b : Nat) (hb : b ≠ a) : (∀ f, zi (zSI h a i x) f b = zi h f b) ∧ (∀ f, zl (zSI h a i x) f b = zl h f b) ∧ (∀ f, zr (zSI h a i x) f b = zr h f b) ∧ (∀ j, zI (zSI h a i x) b j = zI h b j) ∧ (∀ j, zL (zSI h a i x) b j = zL h b j) ∧ (∀ j, zR (zSI h a i x) b j = zR h b j) ∧ zn (zSI h a i x) b = zn h b :=
  ⟨fun _ => rfl, fun _ => rfl, fun _ => rfl, fun j => by rw [zI_SI, if_neg (fun q => hb q.1)], fun _ => rfl, fun _ => rfl, rfl⟩
theorem z_sL {a i : Nat} {x : Int64} (b : Nat) (hb : b ≠ a) : (∀ f, zi (zSL h a i x) f b = zi h f b) ∧ (∀ f, zl (zSL h a i x) f b = zl h f b) ∧ (∀ f, zr (zSL h a i x) f b = zr h f b) ∧ (∀ j, zI (zSL h a i x) b j = zI h b j) ∧ (∀ j, zL (zSL h a i x) b j = zL h b j) ∧ (∀ j, zR (zSL h a i x) b j = zR h b j) ∧ zn (zSL h a i x) b = zn h b :=
  ⟨fun _ => rfl, fun _ => rfl, fun _ => rfl, fun _ => rfl, fun j => by rw [zL_SL, if_neg (fun q => hb q.1)], fun _ => rfl, rfl⟩
theorem z_sR {a i : Nat} {x : Option Nat} (b : Nat) (hb : b ≠ a) : (∀ f, zi (zSR h a i x) f b = zi h f b) ∧ (∀ f, zl (zSR h a i x) f b = zl h f b) ∧ (∀ f, zr (zSR h a i x) f b = zr h f b) ∧ (∀ j, zI (zSR h a i x) b j = zI h b j) ∧ (∀ j, zL (zSR h a i x) b j = zL h b j) ∧ (∀ j, zR (zSR h a i x) b j = zR h b j) ∧ zn (zSR h a i x) b = zn h b :=
  ⟨fun _ => rfl, fun _ => rfl, fun _ => rfl, fun _ => rfl, fun _ => rfl, fun j => by rw [zR_SR, if_neg (fun q => hb q.1)], rfl⟩
theorem z_sF {a : Nat} {g : Nat → Int32} (b : Nat) (hb : b ≠ a) : (∀ f, zi (zSF h a g) f b = zi h f b) ∧ (∀ f, zl (zSF h a g) f b = zl h f b) ∧ (∀ f, zr (zSF h a g) f b = zr h f b) ∧ (∀ j, zI (zSF h a g) b j = zI h b j) ∧ (∀ j, zL (zSF h a g) b j = zL h b j) ∧ (∀ j, zR (zSF h a g) b j = zR h b j) ∧ zn (zSF h a g) b = zn h b :=
  ⟨fun _ => rfl, fun _ => rfl, fun _ => rfl, fun j => by rw [zI_SF, if_neg hb], fun _ => rfl, fun _ => rfl, rfl⟩
theorem z_arrI {t a i : Nat} {x : Int32} (ht : t = 0 ∨ t = 1 ∨ t = 3) : zarr w t (zSI h a i x) a = arrV (w.2.1 t) (zn h a) (updV (fun j => .int (zI h a j)) i (.int x)) := by
  rw [zarr, zcon, if_neg (by omega), if_neg (by omega), vp_cell_i]
  congr 1
  funext j
  rw [zI_SI]
  by_cases e : j = i
  · subst e
    simp [updV]
  · simp [updV, e]
theorem z_arrL {a i : Nat} {x : Int64} : zarr w 2 (zSL h a i x) a = arrV (w.2.1 2) (zn h a) (updV (fun j => .long (zL h a j)) i (.long x)) := by
  rw [zarr, zcon, if_pos rfl, vp_cell_l]
  congr 1
  funext j
  rw [zL_SL]
  by_cases e : j = i
  · subst e
    simp [updV]
  · simp [updV, e]
theorem z_arrR {t a i : Nat} {x : Option Nat} (h4 : 4 ≤ t) : zarr w t (zSR h a i x) a = arrV (w.2.1 t) (zn h a) (updV (fun j => va_rf (zR h a j)) i (va_rf x)) := by
  rw [zarr, zcon, if_neg (by omega), if_pos h4, vp_cell_q]
  congr 1
  funext j
  rw [zR_SR]
  by_cases e : j = i
  · subst e
    simp [updV]
  · simp [updV, e]
theorem g_iast {a n : Nat} {i x : Int32} (hd : decode M.2.1 pc = .ok (.iastore, 1)) (hk : zk h a = 21) (hi : vp_in i (zn h a)) (hn : i.toNatClampNeg = n) (kk : zG l w M (pc + 1) lv rest (zSI h a n x) Q) : zG l w M pc lv (.int x :: .int i :: .ref a :: rest) h Q := by
  subst hn
  refine zG.chg (by rw [zx_SI]) (by rw [zt_SI]) (fun {p} {e} {s} {m} {args} {below} {meth} {c} {c0} {s0} {H} {ls} {locs} {cells} {slots} {Qf} C r h1 kk => ?_) kk
  obtain ⟨hB, hc⟩ := r.2.2.2.1 a 1 .int hk rfl
  refine W.iast C.1 C.2.1 hc ((C.2.2.2.2.2.2.2.2.1.2 1 _ rfl).1 (zn h a) (fun j => .int (zI h a j))) (fun q => by cases q) (by show ¬ (i < 0 ∨ (arrV _ _ _).slots.size ≤ _); rw [arrV_size]; exact hi) rfl rfl hd fun H1 e1 e2 e3 => kk H1 _ _ ?_ (z_low (s := s) hB e3) (z_locs hB _) h1
  refine z_ast (t := 1) r hk rfl e2 e3 ?_ rfl (fun _ => rfl) z_sI
  rw [e1, z_arrI (Or.inr (Or.inl rfl))]
  exact congrArg some (arrV_store _ _ _ _ _)
theorem g_bast {a n : Nat} {i x v : Int32} (hd : decode M.2.1 pc = .ok (.bastore, 1)) (hk : zk h a = 20) (hi : vp_in i (zn h a)) (hn : i.toNatClampNeg = n) (hx : narrow .byte (.int x) = .int v) (kk : zG l w M (pc + 1) lv rest (zSI h a n v) Q) : zG l w M pc lv (.int x :: .int i :: .ref a :: rest) h Q := by
  subst hn
  refine zG.chg (by rw [zx_SI]) (by rw [zt_SI]) (fun {p} {e} {s} {m} {args} {below} {meth} {c} {c0} {s0} {H} {ls} {locs} {cells} {slots} {Qf} C r h1 kk => ?_) kk
  obtain ⟨hB, hc⟩ := r.2.2.2.1 a 0 .byte hk rfl
  refine W.bast C.1 C.2.1 hc ((C.2.2.2.2.2.2.2.2.1.2 0 _ rfl).1 (zn h a) (fun j => .int (zI h a j))) (fun q => by cases q) (by show ¬ (i < 0 ∨ (arrV _ _ _).slots.size ≤ _); rw [arrV_size]; exact hi) rfl rfl hd fun H1 e1 e2 e3 => kk H1 _ _ ?_ (z_low (s := s) hB e3) (z_locs hB _) h1
  refine z_ast (t := 0) r hk rfl e2 e3 ?_ rfl (fun _ => rfl) z_sI
  rw [e1, z_arrI (Or.inl rfl), hx]
  exact congrArg some (arrV_store _ _ _ _ _)
theorem g_zast {a n : Nat} {i x v : Int32} (hd : decode M.2.1 pc = .ok (.bastore, 1)) (hk : zk h a = 23) (hi : vp_in i (zn h a)) (hn : i.toNatClampNeg = n) (hx : narrow .boolean (.int x) = .int v) (kk : zG l w M (pc + 1) lv rest (zSI h a n v) Q) : zG l w M pc lv (.int x :: .int i :: .ref a :: rest) h Q := by
  subst hn
  refine zG.chg (by rw [zx_SI]) (by rw [zt_SI]) (fun {p} {e} {s} {m} {args} {below} {meth} {c} {c0} {s0} {H} {ls} {locs} {cells} {slots} {Qf} C r h1 kk => ?_) kk
  obtain ⟨hB, hc⟩ := r.2.2.2.1 a 3 .boolean hk rfl
  refine W.zast C.1 C.2.1 hc ((C.2.2.2.2.2.2.2.2.1.2 3 _ rfl).1 (zn h a) (fun j => .int (zI h a j))) (fun q => by cases q) (by show ¬ (i < 0 ∨ (arrV _ _ _).slots.size ≤ _); rw [arrV_size]; exact hi) rfl rfl hd fun H1 e1 e2 e3 => kk H1 _ _ ?_ (z_low (s := s) hB e3) (z_locs hB _) h1
  refine z_ast (t := 3) r hk rfl e2 e3 ?_ rfl (fun _ => rfl) z_sI
  rw [e1, z_arrI (Or.inr (Or.inr rfl)), hx]
  exact congrArg some (arrV_store _ _ _ _ _)
theorem g_last {a n : Nat} {i : Int32} {x : Int64} (hd : decode M.2.1 pc = .ok (.lastore, 1)) (hk : zk h a = 22) (hi : vp_in i (zn h a)) (hn : i.toNatClampNeg = n) (kk : zG l w M (pc + 1) lv rest (zSL h a n x) Q) : zG l w M pc lv (.long x :: .int i :: .ref a :: rest) h Q := by
  subst hn
  refine zG.chg (by rw [zx_SL]) (by rw [zt_SL]) (fun {p} {e} {s} {m} {args} {below} {meth} {c} {c0} {s0} {H} {ls} {locs} {cells} {slots} {Qf} C r h1 kk => ?_) kk
  obtain ⟨hB, hc⟩ := r.2.2.2.1 a 2 .long hk rfl
  refine W.last C.1 C.2.1 hc ((C.2.2.2.2.2.2.2.2.1.2 2 _ rfl).1 (zn h a) (fun j => .long (zL h a j))) (fun q => by cases q) (by show ¬ (i < 0 ∨ (arrV _ _ _).slots.size ≤ _); rw [arrV_size]; exact hi) rfl rfl hd fun H1 e1 e2 e3 => kk H1 _ _ ?_ (z_low (s := s) hB e3) (z_locs hB _) h1
  refine z_ast (t := 2) r hk rfl e2 e3 ?_ rfl (fun _ => rfl) z_sL
  rw [e1, z_arrL]
  exact congrArg some (arrV_store _ _ _ _ _)
end ZG4
