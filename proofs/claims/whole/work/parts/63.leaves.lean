section M12
variable {l : Launch} {w : zW} {h : zH} {m : Nat} {N : nT} {a : Nat} {g : Nat → Int64}
/-- a stretch moves up by n, its first j so far -/
def shG (g : Nat → Int64) (b n j : Nat) : Nat → Int64 := fun k => if b ≤ k ∧ k < b + j then g (k + n) else g k
theorem shG_0 {b n : Nat} : shG g b n 0 = g := by funext j; unfold shG; rw [if_neg (by omega)]
theorem shG_ne {b n j k : Nat} (hk : k < b ∨ b + j ≤ k) : shG g b n j k = g k := by unfold shG; rw [if_neg (by omega)]
theorem shG_in {b n j k : Nat} (hk : b ≤ k ∧ k < b + j) : shG g b n j k = g (k + n) := by unfold shG; rw [if_pos hk]
theorem shG_succ {b n j : Nat} : updL (shG g b n j) (b + j) (shG g b n j (b + j + n)) = shG g b n (j + 1) := by
  funext k
  unfold updL shG
  by_cases e : k = b + j
  · subst e
    rw [if_pos rfl, if_neg (by omega), if_pos (by omega)]
  · rw [if_neg e]
    by_cases e2 : b ≤ k ∧ k < b + j
    · rw [if_pos e2, if_pos (by omega)]
    · rw [if_neg e2, if_neg (by omega)]
theorem c_ofLinkG (hM : Mo h m) {k : Nat} (hk : 8 + 40 * a + k < 29020) : zM l w mX10_ofLink [.ref m, .int (nI a), .int (nI k)] (zSG h (m + 1) g) (fun v h1 => v = some (.long (g (8 + 40 * a + k))) ∧ h1 = zSG h (m + 1) g) := by
  have q := c_ofLink (l := l) (w := w) (h := zSG h (m + 1) g) (m := m) (a := a) hM hk
  rw [zL_SG] at q
  exact q
/-- a row whose first n went -/
theorem MoN.shift (r : MoN h m N) (hF : nFit N) (ha : a < 6) {n s : Nat} (hn : n + s = (nR N a).length) : MoN (zSG h (m + 1) (shG (updL (zL h (m + 1)) (8 + 40 * a + 4) (lN s)) (4208 + 60 * a) n s)) m (uR N a ((nR N a).drop n)) ∧ FrM m h (zSG h (m + 1) (shG (updL (zL h (m + 1)) (8 + 40 * a + 4) (lN s)) (4208 + 60 * a) n s)) := by
  have hl := (hF.1 a ha).1
  have f : FrM m h (zSG h (m + 1) (shG (updL (zL h (m + 1)) (8 + 40 * a + 4) (lN s)) (4208 + 60 * a) n s)) := FrM.sg (fun i hi => by rw [shG_ne (by omega), updL_ne (by omega)])
  refine ⟨⟨r.1.fr f, ?_, r.2.2⟩, f⟩
  rw [zL_SG]
  refine r.2.1.listR ha hF (fun k h4 hk => ?_) ?_ (fun i p hp => ?_)
  · rw [shG_ne (by omega), updL_ne (by omega)]
  · rw [shG_ne (by omega), updL_eq, List.length_drop]
    congr 1
    omega
  · have hi := (List.getElem?_eq_some_iff.mp hp).1
    rw [List.length_drop] at hi
    rw [List.getElem?_drop] at hp
    rw [shG_in (by omega), updL_ne (by omega)]
    have q := r.2.1.2.2.2.1 a ha (n + i) p hp
    rw [← q]
    congr 1
    omega
/-- the nets of the first loop -/
def lw (N : nT) (a i : Nat) : nT := ((nR N a).take i).foldl (leaveN a) N
theorem lw_R_ : ∀ (L : List Nat) (N : nT), nR (L.foldl (leaveN a) N) = nR N := by
  intro L
  induction L with
  | nil => intro N; rfl
  | cons p L ih => intro N; rw [List.foldl_cons, ih]; rfl
theorem lw_R {i : Nat} : nR (lw N a i) = nR N := lw_R_ _ _
theorem lw_succ {i p : Nat} (hp : (nR N a)[i]? = some p) : lw N a (i + 1) = leaveN a (lw N a i) p := by
  unfold lw
  rw [take_succ_some hp, List.foldl_append]
  rfl
theorem lq_in (h : iN [] N) (ha : (a : Int) < nA N 0) (hw : nA N (8 + 40 * a + 16) ≤ 359990) {i : Nat} (hi : i ≤ 9) : iN [] (uR (lw N a i) a ((nR N a).drop i)) ∧ kr a ((nR N a).take i) ((nR N a).drop i) N (uR (lw N a i) a ((nR N a).drop i)) := row_fold (X := []) ((nR N a).drop i) ((nR N a).take i) N (List.take_append_drop _ _).symm h ha (by have := List.length_take_le i (nR N a); omega)
theorem lq_fit (h : iN [] N) (ha : (a : Int) < nA N 0) (hw : nA N (8 + 40 * a + 16) ≤ 359990) (hW : ∀ b, b < 6 → (nW N b).length ≤ 81) {i : Nat} (hi : i ≤ 9) : nFit (lw N a i) ∧ (nW (lw N a i) a).length ≤ 81 + i := by
  have H0 := h.H.1
  have q := lq_in h ha hw hi
  have eW : nW (lw N a i) a = nW N a ++ (nR N a).take i := by
    have e := q.2.2.2.1 a
    rw [if_pos rfl] at e
    exact e
  have hl : (nW (lw N a i) a).length ≤ 81 + i := by
    have := hW a (by omega)
    rw [eW, List.length_append]
    have := List.length_take_le i (nR N a)
    omega
  have f := q.1.fit (fun b hb => by
    by_cases c : b = a
    · subst c
      show (nW (lw N b i) b).length ≤ 90
      omega
    · rw [q.2.2.2.1 b, if_neg c]
      have := hW b hb
      omega)
  refine ⟨⟨fun b hb => ⟨?_, (f.1 b hb).2⟩, f.2⟩, hl⟩
  rw [lw_R]
  exact ((h.fit (fun b hb => by have := hW b hb; omega)).1 b hb).1
theorem partN_u {k p : Nat} {z : Int} (h : k < 368 ∨ 368 + 8 * p + 4 < k) : partN (uA N k z) p = partN N p := by unfold partN; rw [nA_ne (by omega), nA_ne (by omega)]
theorem lv_shift {Q : Option Value → zH → Prop} (hM : Mo h m) (ha : a < 6) {n s : Nat} (hn : n + s ≤ 60) (hg : g (8 + 40 * a + 4) = lN s) (hQ : zG l w mX10_leaves 234 [(4, .int (nI s)), (3, .int (nI (4208 + 60 * a))), (2, .int (nI n)), (0, .ref m), (1, .int (nI a))] [] (zSG h (m + 1) (shG g (4208 + 60 * a) n s)) Q) : ∀ k j : Nat, j + k = s → zG l w mX10_leaves 197 [(4, .int (nI j)), (3, .int (nI (4208 + 60 * a))), (2, .int (nI n)), (0, .ref m), (1, .int (nI a))] [] (zSG h (m + 1) (shG g (4208 + 60 * a) n j)) Q := by
  intro k
  induction k with
  | zero =>
    intro j hj
    refine g_iload 0 dX10_leaves_197 rfl ?_
    refine g_i2l dX10_leaves_199 ?_
    rw [nI_l (by omega)]
    refine g_aload_n 3 dX10_leaves_200 rfl rfl ?_
    refine g_iload_n 4 dX10_leaves_201 rfl rfl ?_
    refine g_iconst (v := nI 4) dX10_leaves_202 (by decide) ?_
    refine g_invv (M' := mX10_ofLink) (As := [.int (nI a), .int (nI 4)]) (rest := [.long (lN j)]) dX10_leaves_203 ml_X10_69 okX10_ofLink imX10_ofLink seX10_ofLink ⟨(Nat.le_of_ble_eq_true rfl), (Nat.le_of_ble_eq_true rfl)⟩ (ci := 10) rfl rfl hM.1 rfl rfl (Nat.le_of_ble_eq_true rfl) (c_ofLinkG hM (by omega)) ?_
    rintro _ q1 ⟨rfl, eq1⟩
    subst q1
    show zG l w mX10_leaves 206 [(4, .int (nI j)), (3, .int (nI (4208 + 60 * a))), (2, .int (nI n)), (0, .ref m), (1, .int (nI a))] [.long (shG g (4208 + 60 * a) n j (8 + 40 * a + 4)), .long (lN j)] (zSG h (m + 1) (shG g (4208 + 60 * a) n j)) _
    rw [show shG g (4208 + 60 * a) n j (8 + 40 * a + 4) = lN s by rw [shG_ne (by omega)]; exact hg, ← jL_nat, ← jL_nat]
    refine g_lif_ge (a := (j : Int)) (b := (s : Int)) (tgt := 234) dX10_leaves_206 rfl dX10_leaves_207 (by decide) (by omega) (by omega) (fun c => ?_) (fun c => ?_)
    · have e : j = s := by omega
      subst e
      exact hQ
    · exact absurd c (by omega)
  | succ k ih =>
    intro j hj
    refine g_iload 0 dX10_leaves_197 rfl ?_
    refine g_i2l dX10_leaves_199 ?_
    rw [nI_l (by omega)]
    refine g_aload_n 3 dX10_leaves_200 rfl rfl ?_
    refine g_iload_n 4 dX10_leaves_201 rfl rfl ?_
    refine g_iconst (v := nI 4) dX10_leaves_202 (by decide) ?_
    refine g_invv (M' := mX10_ofLink) (As := [.int (nI a), .int (nI 4)]) (rest := [.long (lN j)]) dX10_leaves_203 ml_X10_69 okX10_ofLink imX10_ofLink seX10_ofLink ⟨(Nat.le_of_ble_eq_true rfl), (Nat.le_of_ble_eq_true rfl)⟩ (ci := 10) rfl rfl hM.1 rfl rfl (Nat.le_of_ble_eq_true rfl) (c_ofLinkG hM (by omega)) ?_
    rintro _ q2 ⟨rfl, eq2⟩
    subst q2
    show zG l w mX10_leaves 206 [(4, .int (nI j)), (3, .int (nI (4208 + 60 * a))), (2, .int (nI n)), (0, .ref m), (1, .int (nI a))] [.long (shG g (4208 + 60 * a) n j (8 + 40 * a + 4)), .long (lN j)] (zSG h (m + 1) (shG g (4208 + 60 * a) n j)) _
    rw [show shG g (4208 + 60 * a) n j (8 + 40 * a + 4) = lN s by rw [shG_ne (by omega)]; exact hg, ← jL_nat, ← jL_nat]
    refine g_lif_ge (a := (j : Int)) (b := (s : Int)) (tgt := 234) dX10_leaves_206 rfl dX10_leaves_207 (by decide) (by omega) (by omega) (fun c => ?_) (fun c => ?_)
    · exact absurd c (by omega)
    · refine g_aload_n 3 dX10_leaves_210 rfl rfl ?_
      refine g_iload_n 1 dX10_leaves_211 rfl rfl ?_
      refine g_iload 0 dX10_leaves_212 rfl ?_
      refine g_iadd dX10_leaves_214 ?_
      rw [nI_add (4208 + 60 * a) j]
      refine g_aload_n 3 dX10_leaves_215 rfl rfl ?_
      refine g_iload_n 1 dX10_leaves_216 rfl rfl ?_
      refine g_iload 0 dX10_leaves_217 rfl ?_
      refine g_iadd dX10_leaves_219 ?_
      rw [nI_add (4208 + 60 * a) j]
      refine g_iload_n 2 dX10_leaves_220 rfl rfl ?_
      refine g_iadd dX10_leaves_221 ?_
      rw [nI_add (4208 + 60 * a + j) n]
      refine g_invv (M' := mX10_of) (As := [.int (nI (4208 + 60 * a + j + n))]) (rest := [.int (nI (4208 + 60 * a + j)), .ref m]) dX10_leaves_222 ml_X10_48 okX10_of imX10_of seX10_of ⟨(Nat.le_of_ble_eq_true rfl), (Nat.le_of_ble_eq_true rfl)⟩ (ci := 10) rfl rfl hM.1 rfl rfl (Nat.le_of_ble_eq_true rfl) (c_ofG hM (by omega)) ?_
      rintro _ q3 ⟨rfl, eq3⟩
      subst q3
      show zG l w mX10_leaves 225 [(4, .int (nI j)), (3, .int (nI (4208 + 60 * a))), (2, .int (nI n)), (0, .ref m), (1, .int (nI a))] [.long (shG g (4208 + 60 * a) n j (4208 + 60 * a + j + n)), .int (nI (4208 + 60 * a + j)), .ref m] (zSG h (m + 1) (shG g (4208 + 60 * a) n j)) _
      refine g_invv (M' := mX10_puts) (As := [.int (nI (4208 + 60 * a + j)), .long (shG g (4208 + 60 * a) n j (4208 + 60 * a + j + n))]) (rest := []) dX10_leaves_225 ml_X10_40 okX10_puts imX10_puts seX10_puts ⟨(Nat.le_of_ble_eq_true rfl), (Nat.le_of_ble_eq_true rfl)⟩ (ci := 10) rfl rfl hM.1 rfl rfl (Nat.le_of_ble_eq_true rfl) (c_putsG hM (by omega)) ?_
      rintro _ q4 ⟨rfl, eq4⟩
      subst q4
      show zG l w mX10_leaves 228 [(4, .int (nI j)), (3, .int (nI (4208 + 60 * a))), (2, .int (nI n)), (0, .ref m), (1, .int (nI a))] [] (zSG h (m + 1) (updL (shG g (4208 + 60 * a) n j) (4208 + 60 * a + j) (shG g (4208 + 60 * a) n j (4208 + 60 * a + j + n)))) _
      rw [shG_succ]
      refine g_inc (v := nI (j + 1)) (lv2 := [(4, .int (nI (j + 1))), (3, .int (nI (4208 + 60 * a))), (2, .int (nI n)), (0, .ref m), (1, .int (nI a))]) 0 dX10_leaves_228 rfl (nI_add _ 1) (by decide) rfl ?_
      refine g_goto (tgt := 197) dX10_leaves_231 (by decide) ?_
      exact ih (j + 1) (by omega)
theorem lv_tail (r : MoN h m N) (hF : nFit N) (hB : nBd N) (ha : a < 6) {n : Nat} (hn : n ≤ (nR N a).length) : zG l w mX10_leaves 182 [(4, .int (nI n)), (3, .int (nI (4208 + 60 * a))), (2, .int (nI n)), (0, .ref m), (1, .int (nI a))] [] h (fun v h1 => v = none ∧ MoN h1 m (uA (uR N a ((nR N a).drop n)) (8 + 40 * a + 7) (min (nA N (8 + 40 * a + 7)) (((nR N a).length - n : Nat) : Int))) ∧ FrM m h h1) := by
  have hM := r.1
  have hl := (hF.1 a ha).1
  refine (fun (k : ∀ h0, h0 = zSG h (m + 1) (zL h (m + 1)) → zG l w mX10_leaves 182 [(4, .int (nI n)), (3, .int (nI (4208 + 60 * a))), (2, .int (nI n)), (0, .ref m), (1, .int (nI a))] [] h0 (fun v h1 => v = none ∧ MoN h1 m (uA (uR N a ((nR N a).drop n)) (8 + 40 * a + 7) (min (nA N (8 + 40 * a + 7)) (((nR N a).length - n : Nat) : Int))) ∧ FrM m h h1)) => k h (zSG_id h (m + 1)).symm) ?_
  intro h0 e0
  subst e0
  refine g_aload_n 3 dX10_leaves_182 rfl rfl ?_
  refine g_iload_n 4 dX10_leaves_183 rfl rfl ?_
  refine g_iconst (v := nI 4) dX10_leaves_184 (by decide) ?_
  refine g_invs (M' := mX10_link0) (As := [.int (nI a), .int (nI 4)]) (rest := [.ref m]) dX10_leaves_185 ml_X10_44 okX10_link0 stX10_link0 ⟨(Nat.le_of_ble_eq_true rfl), (Nat.le_of_ble_eq_true rfl)⟩ rfl rfl (Nat.le_of_ble_eq_true rfl) c_link0 ?_
  rintro _ q1 ⟨rfl, eq1⟩
  subst q1
  show zG l w mX10_leaves 188 [(4, .int (nI n)), (3, .int (nI (4208 + 60 * a))), (2, .int (nI n)), (0, .ref m), (1, .int (nI a))] [.int (nI (8 + 40 * a + 4)), .ref m] (zSG h (m + 1) (zL h (m + 1))) _
  refine g_iload_n 2 dX10_leaves_188 rfl rfl ?_
  refine g_ineg dX10_leaves_189 ?_
  rw [show -nI n = jI (-(n : Int)) by rw [← jI_nat, jI_neg]]
  refine g_i2l dX10_leaves_190 ?_
  rw [jI_l (by omega) (by omega)]
  refine g_invv (M' := mX10_adds) (As := [.int (nI (8 + 40 * a + 4)), .long (jL (-(n : Int)))]) (rest := []) dX10_leaves_191 ml_X10_76 okX10_adds imX10_adds seX10_adds ⟨(Nat.le_of_ble_eq_true rfl), (Nat.le_of_ble_eq_true rfl)⟩ (ci := 10) rfl rfl hM.1 rfl rfl (Nat.le_of_ble_eq_true rfl) (c_addsG hM (by omega)) ?_
  rintro _ q2 ⟨rfl, eq2⟩
  subst q2
  show zG l w mX10_leaves 194 [(4, .int (nI n)), (3, .int (nI (4208 + 60 * a))), (2, .int (nI n)), (0, .ref m), (1, .int (nI a))] [] (zSG h (m + 1) (updL (zL h (m + 1)) (8 + 40 * a + 4) (zL h (m + 1) (8 + 40 * a + 4) + jL (-(n : Int))))) _
  rw [show zL h (m + 1) (8 + 40 * a + 4) + jL (-(n : Int)) = lN ((nR N a).length - n) by rw [(r.2.1.2.2.1 a ha).1, ← jL_nat, ← jL_nat, jL_add]; congr 1; omega]
  refine g_iconst (v := nI 0) dX10_leaves_194 (by decide) ?_
  refine g_istore (lv2 := [(4, .int (nI 0)), (3, .int (nI (4208 + 60 * a))), (2, .int (nI n)), (0, .ref m), (1, .int (nI a))]) dX10_leaves_195 (by decide) rfl ?_
  have q := lv_shift (l := l) (w := w) (h := h) (m := m) (g := updL (zL h (m + 1)) (8 + 40 * a + 4) (lN ((nR N a).length - n))) (Q := (fun v h1 => v = none ∧ MoN h1 m (uA (uR N a ((nR N a).drop n)) (8 + 40 * a + 7) (min (nA N (8 + 40 * a + 7)) (((nR N a).length - n : Nat) : Int))) ∧ FrM m h h1)) hM ha (n := n) (s := (nR N a).length - n) (by omega) updL_eq ?_ _ 0 (Nat.zero_add _)
  · rw [shG_0] at q
    exact q
  · have s := r.shift hF ha (n := n) (s := (nR N a).length - n) (by omega)
    refine g_aload_n 3 dX10_leaves_234 rfl rfl ?_
    refine g_iload_n 4 dX10_leaves_235 rfl rfl ?_
    refine g_bipush (v := nI 7) dX10_leaves_236 (by decide) ?_
    refine g_invs (M' := mX10_link0) (As := [.int (nI a), .int (nI 7)]) (rest := [.ref m]) dX10_leaves_238 ml_X10_44 okX10_link0 stX10_link0 ⟨(Nat.le_of_ble_eq_true rfl), (Nat.le_of_ble_eq_true rfl)⟩ rfl rfl (Nat.le_of_ble_eq_true rfl) c_link0 ?_
    rintro _ q1 ⟨rfl, eq1⟩
    subst q1
    show zG l w mX10_leaves 241 [(4, .int (nI ((nR N a).length - n))), (3, .int (nI (4208 + 60 * a))), (2, .int (nI n)), (0, .ref m), (1, .int (nI a))] [.int (nI (8 + 40 * a + 7)), .ref m] (zSG h (m + 1) (shG (updL (zL h (m + 1)) (8 + 40 * a + 4) (lN ((nR N a).length - n))) (4208 + 60 * a) n ((nR N a).length - n))) _
    refine g_aload_n 3 dX10_leaves_241 rfl rfl ?_
    refine g_iload_n 4 dX10_leaves_242 rfl rfl ?_
    refine g_bipush (v := nI 7) dX10_leaves_243 (by decide) ?_
    refine g_invv (M' := mX10_ofLink) (As := [.int (nI a), .int (nI 7)]) (rest := [.int (nI (8 + 40 * a + 7)), .ref m]) dX10_leaves_245 ml_X10_69 okX10_ofLink imX10_ofLink seX10_ofLink ⟨(Nat.le_of_ble_eq_true rfl), (Nat.le_of_ble_eq_true rfl)⟩ (ci := 10) rfl rfl s.1.1.1 rfl rfl (Nat.le_of_ble_eq_true rfl) (c_ofLinkN s.1 (by omega) (by unfold nSp; omega)) ?_
    rintro _ q2 ⟨rfl, eq2⟩
    subst q2
    show zG l w mX10_leaves 248 [(4, .int (nI ((nR N a).length - n))), (3, .int (nI (4208 + 60 * a))), (2, .int (nI n)), (0, .ref m), (1, .int (nI a))] [.long (jL (nA (uR N a ((nR N a).drop n)) (8 + 40 * a + 7))), .int (nI (8 + 40 * a + 7)), .ref m] (zSG h (m + 1) (shG (updL (zL h (m + 1)) (8 + 40 * a + 4) (lN ((nR N a).length - n))) (4208 + 60 * a) n ((nR N a).length - n))) _
    refine g_aload_n 3 dX10_leaves_248 rfl rfl ?_
    refine g_iload_n 4 dX10_leaves_249 rfl rfl ?_
    refine g_iconst (v := nI 4) dX10_leaves_250 (by decide) ?_
    refine g_invv (M' := mX10_ofLink) (As := [.int (nI a), .int (nI 4)]) (rest := [.long (jL (nA (uR N a ((nR N a).drop n)) (8 + 40 * a + 7))), .int (nI (8 + 40 * a + 7)), .ref m]) dX10_leaves_251 ml_X10_69 okX10_ofLink imX10_ofLink seX10_ofLink ⟨(Nat.le_of_ble_eq_true rfl), (Nat.le_of_ble_eq_true rfl)⟩ (ci := 10) rfl rfl s.1.1.1 rfl rfl (Nat.le_of_ble_eq_true rfl) (c_ofStood s.1 (by omega)) ?_
    rintro _ q3 ⟨rfl, eq3⟩
    subst q3
    show zG l w mX10_leaves 254 [(4, .int (nI ((nR N a).length - n))), (3, .int (nI (4208 + 60 * a))), (2, .int (nI n)), (0, .ref m), (1, .int (nI a))] [.long (lN (nR (uR N a ((nR N a).drop n)) a).length), .long (jL (nA (uR N a ((nR N a).drop n)) (8 + 40 * a + 7))), .int (nI (8 + 40 * a + 7)), .ref m] (zSG h (m + 1) (shG (updL (zL h (m + 1)) (8 + 40 * a + 4) (lN ((nR N a).length - n))) (4208 + 60 * a) n ((nR N a).length - n))) _
    rw [← jL_nat]
    have b7 := hB (8 + 40 * a + 7) (by omega)
    rw [show (nR (uR N a ((nR N a).drop n)) a).length = (nR N a).length - n by rw [nR_uR, if_pos rfl, List.length_drop]]
    refine g_invs (M' := mJ9_min_f86c9) (As := [.long (jL (nA N (8 + 40 * a + 7))), .long (jL (((nR N a).length - n : Nat) : Int))]) (rest := [.int (nI (8 + 40 * a + 7)), .ref m]) dX10_leaves_254 ml_X10_113 okJ9_min_f86c9 stJ9_min_f86c9 ⟨(Nat.le_of_ble_eq_true rfl), (Nat.le_of_ble_eq_true rfl)⟩ rfl rfl (Nat.le_of_ble_eq_true rfl) (c_minL (by omega) (by omega)) ?_
    rintro _ q4 ⟨rfl, eq4⟩
    subst q4
    show zG l w mX10_leaves 257 [(4, .int (nI ((nR N a).length - n))), (3, .int (nI (4208 + 60 * a))), (2, .int (nI n)), (0, .ref m), (1, .int (nI a))] [.long (jL (min (nA N (8 + 40 * a + 7)) (((nR N a).length - n : Nat) : Int))), .int (nI (8 + 40 * a + 7)), .ref m] (zSG h (m + 1) (shG (updL (zL h (m + 1)) (8 + 40 * a + 4) (lN ((nR N a).length - n))) (4208 + 60 * a) n ((nR N a).length - n))) _
    refine g_invv (M' := mX10_puts) (As := [.int (nI (8 + 40 * a + 7)), .long (jL (min (nA N (8 + 40 * a + 7)) (((nR N a).length - n : Nat) : Int)))]) (rest := []) dX10_leaves_257 ml_X10_40 okX10_puts imX10_puts seX10_puts ⟨(Nat.le_of_ble_eq_true rfl), (Nat.le_of_ble_eq_true rfl)⟩ (ci := 10) rfl rfl s.1.1.1 rfl rfl (Nat.le_of_ble_eq_true rfl) (c_putsN s.1 (by omega) (by unfold nSp; omega)) ?_
    rintro _ y5 ⟨rfl, r5, f5⟩
    show zG l w mX10_leaves 260 [(4, .int (nI ((nR N a).length - n))), (3, .int (nI (4208 + 60 * a))), (2, .int (nI n)), (0, .ref m), (1, .int (nI a))] [] y5 _
    refine g_return dX10_leaves_260 rfl ?_
    exact ⟨rfl, r5, (s.2.tr f5)⟩
theorem lw_7_ (ha : a < 6) : ∀ (L : List Nat) (N : nT), nA (L.foldl (leaveN a) N) (8 + 40 * a + 7) = nA N (8 + 40 * a + 7) := by
  intro L
  induction L with
  | nil => intro N; rfl
  | cons p L ih => intro N; rw [List.foldl_cons, ih]; exact leaveN_ne (by omega) (by omega) (by omega) (by omega) (by omega)
theorem lw_7 (h : iN [] N) (ha : (a : Int) < nA N 0) {i : Nat} : nA (lw N a i) (8 + 40 * a + 7) = nA N (8 + 40 * a + 7) := lw_7_ (by have H0 := h.H.1; omega) _ _
theorem c_leaves (r : MoN h m N) (hI : iN [] N) (ha : (a : Int) < nA N 0) (hw : nA N (8 + 40 * a + 16) ≤ 359990) (hW : ∀ b, b < 6 → (nW N b).length ≤ 81) : zM l w mX10_leaves [.ref m, .int (nI a)] h (fun v h1 => v = none ∧ MoN h1 m (rowN N a) ∧ FrM m h h1) := by
  refine zM.of (by decide) (Nat.le_of_ble_eq_true rfl) ?_
  have H0 := hI.H.1
  have a6 : a < 6 := by omega
  have L0 := (hI.L a ha).1.1
  have hR60 := (hI.L a ha).2.1.1
  have h9 : rowC N a ≤ 9 := by unfold rowC; omega
  have hRl : rowC N a ≤ (nR N a).length := by unfold rowC; omega
  have loop : ∀ n i : Nat, i + n = rowC N a → ∀ h' N1, N1 = lw N a i → MoN h' m N1 → FrM m h h' → zG l w mX10_leaves 29 [(4, .int (nI i)), (3, .int (nI (4208 + 60 * a))), (2, .int (nI (rowC N a))), (0, .ref m), (1, .int (nI a))] [] h' (fun v h1 => v = none ∧ MoN h1 m (rowN N a) ∧ FrM m h h1) := by
    intro n
    induction n with
    | zero =>
      intro i hi h' N1 hN1 r' fr'
      refine g_iload 0 dX10_leaves_29 rfl ?_
      refine g_iload_n 2 dX10_leaves_31 rfl rfl ?_
      refine g_ncmp_ge (tgt := 182) dX10_leaves_32 (by decide) (by omega) (by omega) (fun c => ?_) (fun c => ?_)
      · have hi' : i = rowC N a := by omega
        subst hi'
        have K := lq_in hI ha hw h9
        have F := lq_fit hI ha hw hW h9
        have hR1 : nR N1 a = nR N a := by rw [hN1, lw_R]
        have t := lv_tail (l := l) (w := w) r' (by rw [hN1]; exact F.1) (by rw [hN1]; exact K.1.B) a6 (n := rowC N a) (by rw [hR1]; exact hRl)
        rw [hR1] at t
        refine t.mono ?_
        rintro _ _ ⟨rfl, t1, t2⟩
        refine ⟨rfl, ?_, fr'.tr t2⟩
        rw [show nA N1 (8 + 40 * a + 7) = nA N (8 + 40 * a + 7) by rw [hN1]; exact lw_7 hI ha] at t1
        rw [rowN_eq]
        rw [hN1] at t1
        exact t1
      · exact absurd c (by omega)
    | succ n ih =>
      intro i hi h' N1 hN1 r' fr'
      obtain ⟨p, hp⟩ : ∃ p, (nR N a)[i]? = some p := ⟨_, List.getElem?_eq_getElem (by omega)⟩
      have K := lq_in hI ha hw (i := i) (by omega)
      have F := lq_fit hI ha hw hW (i := i) (by omega)
      have hR1 : nR N1 a = nR N a := by rw [hN1, lw_R]
      have hF : nFit N1 := by rw [hN1]; exact F.1
      have hB : nBd N1 := by rw [hN1]; exact K.1.B
      have hmem : p ∈ nR (uR (lw N a i) a ((nR N a).drop i)) a := by rw [nR_uR, if_pos rfl]; exact List.mem_of_getElem? (i := 0) (by rw [List.getElem?_drop, Nat.add_zero]; exact hp)
      have hp4 := K.1.C.memR a6 hmem
      have P := K.1.P p hp4.1 hp4.2
      have e0 : nA (lw N a i) 0 = nA N 0 := K.2.1 0 (by omega) (by omega) (by omega) (by omega) (by omega)
      have L := K.1.L a (by show (a : Int) < nA (lw N a i) 0; rw [e0]; exact ha)
      have sh := L.share K.1.B P
      have Lq : nLq N1 a := by rw [hN1]; exact L.q
      have p4 : 0 ≤ nA N1 (368 + 8 * p + 4) := by rw [hN1]; exact P.2.2.2.2.1.1
      have p3 : 0 < nA N1 (368 + 8 * p + 3) := by rw [hN1]; have q := P.2.2.2.1.1; exact Int.lt_of_lt_of_le (by decide) q
      have sh' : -15011000 ≤ shareN N1 a p ∧ shareN N1 a p ≤ 15011000 := by rw [hN1]; exact sh
      have hW90 : (nW N1 a).length < 90 := by have q := F.2; rw [hN1]; omega
      have hp480 := hp4.1
      refine g_iload 0 dX10_leaves_29 rfl ?_
      refine g_iload_n 2 dX10_leaves_31 rfl rfl ?_
      refine g_ncmp_ge (tgt := 182) dX10_leaves_32 (by decide) (by omega) (by omega) (fun c => ?_) (fun c => ?_)
      · exact absurd c (by omega)
      · refine g_aload_n 3 dX10_leaves_35 rfl rfl ?_
        refine g_iload_n 1 dX10_leaves_36 rfl rfl ?_
        refine g_iload 0 dX10_leaves_37 rfl ?_
        refine g_iadd dX10_leaves_39 ?_
        rw [nI_add (4208 + 60 * a) i]
        refine g_invv (M' := mX10_at) (As := [.int (nI (4208 + 60 * a + i))]) (rest := []) dX10_leaves_40 ml_X10_58 okX10_at imX10_at seX10_at ⟨(Nat.le_of_ble_eq_true rfl), (Nat.le_of_ble_eq_true rfl)⟩ (ci := 10) rfl rfl r'.1.1 rfl rfl (Nat.le_of_ble_eq_true rfl) (c_atRow r' a6 (by omega) (by rw [hR1]; exact hp)) ?_
        rintro _ q1 ⟨rfl, eq1⟩
        subst q1
        show zG l w mX10_leaves 43 [(4, .int (nI i)), (3, .int (nI (4208 + 60 * a))), (2, .int (nI (rowC N a))), (0, .ref m), (1, .int (nI a))] [.int (nI p)] h' _
        refine g_istore (lv2 := [(5, .int (nI p)), (4, .int (nI i)), (3, .int (nI (4208 + 60 * a))), (2, .int (nI (rowC N a))), (0, .ref m), (1, .int (nI a))]) dX10_leaves_43 (by decide) rfl ?_
        refine g_aload_n 4 dX10_leaves_45 rfl rfl ?_
        refine g_iload 0 dX10_leaves_46 rfl ?_
        refine g_iconst (v := nI 5) dX10_leaves_48 (by decide) ?_
        refine g_invs (M' := mX10_packet0) (As := [.int (nI p), .int (nI 5)]) (rest := [.ref m]) dX10_leaves_49 ml_X10_55 okX10_packet0 stX10_packet0 ⟨(Nat.le_of_ble_eq_true rfl), (Nat.le_of_ble_eq_true rfl)⟩ rfl rfl (Nat.le_of_ble_eq_true rfl) c_packet0 ?_
        rintro _ q2 ⟨rfl, eq2⟩
        subst q2
        show zG l w mX10_leaves 52 [(5, .int (nI p)), (4, .int (nI i)), (3, .int (nI (4208 + 60 * a))), (2, .int (nI (rowC N a))), (0, .ref m), (1, .int (nI a))] [.int (nI (368 + 8 * p + 5)), .ref m] h' _
        refine g_aload_n 4 dX10_leaves_52 rfl rfl ?_
        refine g_iload 0 dX10_leaves_53 rfl ?_
        refine g_iconst (v := nI 5) dX10_leaves_55 (by decide) ?_
        refine g_invs (M' := mX10_packet0) (As := [.int (nI p), .int (nI 5)]) (rest := [.ref m, .int (nI (368 + 8 * p + 5)), .ref m]) dX10_leaves_56 ml_X10_55 okX10_packet0 stX10_packet0 ⟨(Nat.le_of_ble_eq_true rfl), (Nat.le_of_ble_eq_true rfl)⟩ rfl rfl (Nat.le_of_ble_eq_true rfl) c_packet0 ?_
        rintro _ q3 ⟨rfl, eq3⟩
        subst q3
        show zG l w mX10_leaves 59 [(5, .int (nI p)), (4, .int (nI i)), (3, .int (nI (4208 + 60 * a))), (2, .int (nI (rowC N a))), (0, .ref m), (1, .int (nI a))] [.int (nI (368 + 8 * p + 5)), .ref m, .int (nI (368 + 8 * p + 5)), .ref m] h' _
        refine g_invv (M' := mX10_of) (As := [.int (nI (368 + 8 * p + 5))]) (rest := [.int (nI (368 + 8 * p + 5)), .ref m]) dX10_leaves_59 ml_X10_48 okX10_of imX10_of seX10_of ⟨(Nat.le_of_ble_eq_true rfl), (Nat.le_of_ble_eq_true rfl)⟩ (ci := 10) rfl rfl r'.1.1 rfl rfl (Nat.le_of_ble_eq_true rfl) (c_ofN r' (by omega) (by unfold nSp; omega)) ?_
        rintro _ q4 ⟨rfl, eq4⟩
        subst q4
        show zG l w mX10_leaves 62 [(5, .int (nI p)), (4, .int (nI i)), (3, .int (nI (4208 + 60 * a))), (2, .int (nI (rowC N a))), (0, .ref m), (1, .int (nI a))] [.long (jL (nA N1 (368 + 8 * p + 5))), .int (nI (368 + 8 * p + 5)), .ref m] h' _
        refine g_aload_n 4 dX10_leaves_62 rfl rfl ?_
        refine g_iload_n 5 dX10_leaves_63 rfl rfl ?_
        refine g_iload 0 dX10_leaves_64 rfl ?_
        refine g_invv (M' := mX10_shareOf) (As := [.int (nI a), .int (nI p)]) (rest := [.long (jL (nA N1 (368 + 8 * p + 5))), .int (nI (368 + 8 * p + 5)), .ref m]) dX10_leaves_66 ml_X10_159 okX10_shareOf imX10_shareOf seX10_shareOf ⟨(Nat.le_of_ble_eq_true rfl), (Nat.le_of_ble_eq_true rfl)⟩ (ci := 10) rfl rfl r'.1.1 rfl rfl (Nat.le_of_ble_eq_true rfl) (c_shareOf r' hB a6 Lq hp480 p4 p3) ?_
        rintro _ q5 ⟨rfl, eq5⟩
        subst q5
        show zG l w mX10_leaves 69 [(5, .int (nI p)), (4, .int (nI i)), (3, .int (nI (4208 + 60 * a))), (2, .int (nI (rowC N a))), (0, .ref m), (1, .int (nI a))] [.long (jL (shareN N1 a p)), .long (jL (nA N1 (368 + 8 * p + 5))), .int (nI (368 + 8 * p + 5)), .ref m] h' _
        have b5 := hB (368 + 8 * p + 5) (by omega)
        refine g_invs (M' := mJ9_min_f86c9) (As := [.long (jL (nA N1 (368 + 8 * p + 5))), .long (jL (shareN N1 a p))]) (rest := [.int (nI (368 + 8 * p + 5)), .ref m]) dX10_leaves_69 ml_X10_113 okJ9_min_f86c9 stJ9_min_f86c9 ⟨(Nat.le_of_ble_eq_true rfl), (Nat.le_of_ble_eq_true rfl)⟩ rfl rfl (Nat.le_of_ble_eq_true rfl) (c_minL (by omega) (by omega)) ?_
        rintro _ q6 ⟨rfl, eq6⟩
        subst q6
        show zG l w mX10_leaves 72 [(5, .int (nI p)), (4, .int (nI i)), (3, .int (nI (4208 + 60 * a))), (2, .int (nI (rowC N a))), (0, .ref m), (1, .int (nI a))] [.long (jL (min (nA N1 (368 + 8 * p + 5)) (shareN N1 a p))), .int (nI (368 + 8 * p + 5)), .ref m] h' _
        refine g_invv (M' := mX10_puts) (As := [.int (nI (368 + 8 * p + 5)), .long (jL (min (nA N1 (368 + 8 * p + 5)) (shareN N1 a p)))]) (rest := []) dX10_leaves_72 ml_X10_40 okX10_puts imX10_puts seX10_puts ⟨(Nat.le_of_ble_eq_true rfl), (Nat.le_of_ble_eq_true rfl)⟩ (ci := 10) rfl rfl r'.1.1 rfl rfl (Nat.le_of_ble_eq_true rfl) (c_putsN r' (by omega) (by unfold nSp; omega)) ?_
        rintro _ y7 ⟨rfl, r7, f7⟩
        show zG l w mX10_leaves 75 [(5, .int (nI p)), (4, .int (nI i)), (3, .int (nI (4208 + 60 * a))), (2, .int (nI (rowC N a))), (0, .ref m), (1, .int (nI a))] [] y7 _
        refine g_aload_n 4 dX10_leaves_75 rfl rfl ?_
        refine g_iload_n 5 dX10_leaves_76 rfl rfl ?_
        refine g_bipush (v := nI 12) dX10_leaves_77 (by decide) ?_
        refine g_invs (M' := mX10_link0) (As := [.int (nI a), .int (nI 12)]) (rest := [.ref m]) dX10_leaves_79 ml_X10_44 okX10_link0 stX10_link0 ⟨(Nat.le_of_ble_eq_true rfl), (Nat.le_of_ble_eq_true rfl)⟩ rfl rfl (Nat.le_of_ble_eq_true rfl) c_link0 ?_
        rintro _ q8 ⟨rfl, eq8⟩
        subst q8
        show zG l w mX10_leaves 82 [(5, .int (nI p)), (4, .int (nI i)), (3, .int (nI (4208 + 60 * a))), (2, .int (nI (rowC N a))), (0, .ref m), (1, .int (nI a))] [.int (nI (8 + 40 * a + 12)), .ref m] y7 _
        refine g_aload_n 4 dX10_leaves_82 rfl rfl ?_
        refine g_iload_n 5 dX10_leaves_83 rfl rfl ?_
        refine g_iload 0 dX10_leaves_84 rfl ?_
        have hB2 := nBd_uA (k := 368 + 8 * p + 5) (z := min (nA N1 (368 + 8 * p + 5)) (shareN N1 a p)) hB (by omega)
        have eg : gotN (uA N1 (368 + 8 * p + 5) (min (nA N1 (368 + 8 * p + 5)) (shareN N1 a p))) a p = gotN N1 a p := by unfold gotN; rw [partN_u (by omega), nA_ne (by omega), nA_ne (by omega)]
        refine g_invv (M' := mX10_gotWith) (As := [.int (nI a), .int (nI p)]) (rest := [.int (nI (8 + 40 * a + 12)), .ref m]) dX10_leaves_86 ml_X10_146 okX10_gotWith imX10_gotWith seX10_gotWith ⟨(Nat.le_of_ble_eq_true rfl), (Nat.le_of_ble_eq_true rfl)⟩ (ci := 10) rfl rfl r7.1.1 rfl rfl (Nat.le_of_ble_eq_true rfl) (c_gotWith r7 hB2 a6 hp480 (by rw [nA_ne (by omega)]; exact p4) (by rw [nA_ne (by omega)]; exact p3)) ?_
        rintro _ q9 ⟨rfl, eq9⟩
        subst q9
        show zG l w mX10_leaves 89 [(5, .int (nI p)), (4, .int (nI i)), (3, .int (nI (4208 + 60 * a))), (2, .int (nI (rowC N a))), (0, .ref m), (1, .int (nI a))] [.long (jL (gotN (uA N1 (368 + 8 * p + 5) (min (nA N1 (368 + 8 * p + 5)) (shareN N1 a p))) a p)), .int (nI (8 + 40 * a + 12)), .ref m] y7 _
        rw [eg]
        refine g_invv (M' := mX10_puts) (As := [.int (nI (8 + 40 * a + 12)), .long (jL (gotN N1 a p))]) (rest := []) dX10_leaves_89 ml_X10_40 okX10_puts imX10_puts seX10_puts ⟨(Nat.le_of_ble_eq_true rfl), (Nat.le_of_ble_eq_true rfl)⟩ (ci := 10) rfl rfl r7.1.1 rfl rfl (Nat.le_of_ble_eq_true rfl) (c_putsN r7 (by omega) (by unfold nSp; omega)) ?_
        rintro _ y10 ⟨rfl, r10, f10⟩
        show zG l w mX10_leaves 92 [(5, .int (nI p)), (4, .int (nI i)), (3, .int (nI (4208 + 60 * a))), (2, .int (nI (rowC N a))), (0, .ref m), (1, .int (nI a))] [] y10 _
        refine g_aload_n 4 dX10_leaves_92 rfl rfl ?_
        refine g_iload_n 5 dX10_leaves_93 rfl rfl ?_
        refine g_bipush (v := nI 13) dX10_leaves_94 (by decide) ?_
        refine g_invs (M' := mX10_link0) (As := [.int (nI a), .int (nI 13)]) (rest := [.ref m]) dX10_leaves_96 ml_X10_44 okX10_link0 stX10_link0 ⟨(Nat.le_of_ble_eq_true rfl), (Nat.le_of_ble_eq_true rfl)⟩ rfl rfl (Nat.le_of_ble_eq_true rfl) c_link0 ?_
        rintro _ q11 ⟨rfl, eq11⟩
        subst q11
        show zG l w mX10_leaves 99 [(5, .int (nI p)), (4, .int (nI i)), (3, .int (nI (4208 + 60 * a))), (2, .int (nI (rowC N a))), (0, .ref m), (1, .int (nI a))] [.int (nI (8 + 40 * a + 13)), .ref m] y10 _
        refine g_aload_n 4 dX10_leaves_99 rfl rfl ?_
        refine g_iload_n 5 dX10_leaves_100 rfl rfl ?_
        have b12 : -17592186044416 ≤ gotN N1 a p ∧ gotN N1 a p < 17592186044416 := by have q := Lq.2.1.1; have q2 := hB (8 + 40 * a + 10) (by omega); have q3 := Lq.2.2.1.1; have q4 : (1 : Int) ≤ partN N1 p := (by unfold partN; omega); unfold gotN; omega
        have hB3 := nBd_uA (k := 8 + 40 * a + 12) (z := gotN N1 a p) hB2 b12
        have et : tookN (uA (uA N1 (368 + 8 * p + 5) (min (nA N1 (368 + 8 * p + 5)) (shareN N1 a p))) (8 + 40 * a + 12) (gotN N1 a p)) a = tookN N1 a := by unfold tookN; rw [nA_ne (by omega), nA_ne (by omega), nA_ne (by omega), nA_ne (by omega)]
        refine g_invv (M' := mX10_tookWith) (As := [.int (nI a)]) (rest := [.int (nI (8 + 40 * a + 13)), .ref m]) dX10_leaves_101 ml_X10_153 okX10_tookWith imX10_tookWith seX10_tookWith ⟨(Nat.le_of_ble_eq_true rfl), (Nat.le_of_ble_eq_true rfl)⟩ (ci := 10) rfl rfl r10.1.1 rfl rfl (Nat.le_of_ble_eq_true rfl) (c_tookWith r10 hB3 a6) ?_
        rintro _ q12 ⟨rfl, eq12⟩
        subst q12
        show zG l w mX10_leaves 104 [(5, .int (nI p)), (4, .int (nI i)), (3, .int (nI (4208 + 60 * a))), (2, .int (nI (rowC N a))), (0, .ref m), (1, .int (nI a))] [.long (jL (tookN (uA (uA N1 (368 + 8 * p + 5) (min (nA N1 (368 + 8 * p + 5)) (shareN N1 a p))) (8 + 40 * a + 12) (gotN N1 a p)) a)), .int (nI (8 + 40 * a + 13)), .ref m] y10 _
        rw [et]
        refine g_invv (M' := mX10_puts) (As := [.int (nI (8 + 40 * a + 13)), .long (jL (tookN N1 a))]) (rest := []) dX10_leaves_104 ml_X10_40 okX10_puts imX10_puts seX10_puts ⟨(Nat.le_of_ble_eq_true rfl), (Nat.le_of_ble_eq_true rfl)⟩ (ci := 10) rfl rfl r10.1.1 rfl rfl (Nat.le_of_ble_eq_true rfl) (c_putsN r10 (by omega) (by unfold nSp; omega)) ?_
        rintro _ y13 ⟨rfl, r13, f13⟩
        show zG l w mX10_leaves 107 [(5, .int (nI p)), (4, .int (nI i)), (3, .int (nI (4208 + 60 * a))), (2, .int (nI (rowC N a))), (0, .ref m), (1, .int (nI a))] [] y13 _
        refine g_aload_n 4 dX10_leaves_107 rfl rfl ?_
        refine g_iload 0 dX10_leaves_108 rfl ?_
        refine g_bipush (v := nI 6) dX10_leaves_110 (by decide) ?_
        refine g_invs (M' := mX10_packet0) (As := [.int (nI p), .int (nI 6)]) (rest := [.ref m]) dX10_leaves_112 ml_X10_55 okX10_packet0 stX10_packet0 ⟨(Nat.le_of_ble_eq_true rfl), (Nat.le_of_ble_eq_true rfl)⟩ rfl rfl (Nat.le_of_ble_eq_true rfl) c_packet0 ?_
        rintro _ q14 ⟨rfl, eq14⟩
        subst q14
        show zG l w mX10_leaves 115 [(5, .int (nI p)), (4, .int (nI i)), (3, .int (nI (4208 + 60 * a))), (2, .int (nI (rowC N a))), (0, .ref m), (1, .int (nI a))] [.int (nI (368 + 8 * p + 6)), .ref m] y13 _
        refine g_aload_n 4 dX10_leaves_115 rfl rfl ?_
        refine g_iconst (v := nI 2) dX10_leaves_116 (by decide) ?_
        refine g_invv (M' := mX10_of) (As := [.int (nI 2)]) (rest := [.int (nI (368 + 8 * p + 6)), .ref m]) dX10_leaves_117 ml_X10_48 okX10_of imX10_of seX10_of ⟨(Nat.le_of_ble_eq_true rfl), (Nat.le_of_ble_eq_true rfl)⟩ (ci := 10) rfl rfl r13.1.1 rfl rfl (Nat.le_of_ble_eq_true rfl) (c_ofN r13 (by omega) (by unfold nSp; omega)) ?_
        rintro _ q15 ⟨rfl, eq15⟩
        subst q15
        show zG l w mX10_leaves 120 [(5, .int (nI p)), (4, .int (nI i)), (3, .int (nI (4208 + 60 * a))), (2, .int (nI (rowC N a))), (0, .ref m), (1, .int (nI a))] [.long (jL (nA (uA (uA (uA N1 (368 + 8 * p + 5) (min (nA N1 (368 + 8 * p + 5)) (shareN N1 a p))) (8 + 40 * a + 12) (gotN N1 a p)) (8 + 40 * a + 13) (tookN N1 a)) 2)), .int (nI (368 + 8 * p + 6)), .ref m] y13 _
        rw [show nA (uA (uA (uA N1 (368 + 8 * p + 5) (min (nA N1 (368 + 8 * p + 5)) (shareN N1 a p))) (8 + 40 * a + 12) (gotN N1 a p)) (8 + 40 * a + 13) (tookN N1 a)) 2 = nA N1 2 by rw [nA_ne (by omega), nA_ne (by omega), nA_ne (by omega)]]
        refine g_aload_n 4 dX10_leaves_120 rfl rfl ?_
        refine g_iload_n 5 dX10_leaves_121 rfl rfl ?_
        refine g_iconst (v := nI 1) dX10_leaves_122 (by decide) ?_
        refine g_invv (M' := mX10_ofLink) (As := [.int (nI a), .int (nI 1)]) (rest := [.long (jL (nA N1 2)), .int (nI (368 + 8 * p + 6)), .ref m]) dX10_leaves_123 ml_X10_69 okX10_ofLink imX10_ofLink seX10_ofLink ⟨(Nat.le_of_ble_eq_true rfl), (Nat.le_of_ble_eq_true rfl)⟩ (ci := 10) rfl rfl r13.1.1 rfl rfl (Nat.le_of_ble_eq_true rfl) (c_ofLinkN r13 (by omega) (by unfold nSp; omega)) ?_
        rintro _ q16 ⟨rfl, eq16⟩
        subst q16
        show zG l w mX10_leaves 126 [(5, .int (nI p)), (4, .int (nI i)), (3, .int (nI (4208 + 60 * a))), (2, .int (nI (rowC N a))), (0, .ref m), (1, .int (nI a))] [.long (jL (nA (uA (uA (uA N1 (368 + 8 * p + 5) (min (nA N1 (368 + 8 * p + 5)) (shareN N1 a p))) (8 + 40 * a + 12) (gotN N1 a p)) (8 + 40 * a + 13) (tookN N1 a)) (8 + 40 * a + 1))), .long (jL (nA N1 2)), .int (nI (368 + 8 * p + 6)), .ref m] y13 _
        rw [show nA (uA (uA (uA N1 (368 + 8 * p + 5) (min (nA N1 (368 + 8 * p + 5)) (shareN N1 a p))) (8 + 40 * a + 12) (gotN N1 a p)) (8 + 40 * a + 13) (tookN N1 a)) (8 + 40 * a + 1) = nA N1 (8 + 40 * a + 1) by rw [nA_ne (by omega), nA_ne (by omega), nA_ne (by omega)]]
        refine g_ladd dX10_leaves_126 ?_
        rw [jL_add]
        refine g_invv (M' := mX10_puts) (As := [.int (nI (368 + 8 * p + 6)), .long (jL ((nA N1 2) + (nA N1 (8 + 40 * a + 1))))]) (rest := []) dX10_leaves_127 ml_X10_40 okX10_puts imX10_puts seX10_puts ⟨(Nat.le_of_ble_eq_true rfl), (Nat.le_of_ble_eq_true rfl)⟩ (ci := 10) rfl rfl r13.1.1 rfl rfl (Nat.le_of_ble_eq_true rfl) (c_putsN r13 (by omega) (by unfold nSp; omega)) ?_
        rintro _ y17 ⟨rfl, r17, f17⟩
        show zG l w mX10_leaves 130 [(5, .int (nI p)), (4, .int (nI i)), (3, .int (nI (4208 + 60 * a))), (2, .int (nI (rowC N a))), (0, .ref m), (1, .int (nI a))] [] y17 _
        refine g_aload_n 4 dX10_leaves_130 rfl rfl ?_
        refine g_sipush (v := nI 4568) dX10_leaves_131 (by decide) ?_
        refine g_bipush (v := nI 90) dX10_leaves_134 (by decide) ?_
        refine g_iload_n 5 dX10_leaves_136 rfl rfl ?_
        refine g_imul dX10_leaves_137 ?_
        rw [pk_mul 90 a]
        refine g_iadd dX10_leaves_138 ?_
        rw [nI_add 4568 (90 * a)]
        refine g_aload_n 4 dX10_leaves_139 rfl rfl ?_
        refine g_iload_n 5 dX10_leaves_140 rfl rfl ?_
        refine g_iconst (v := nI 5) dX10_leaves_141 (by decide) ?_
        refine g_invs (M' := mX10_link0) (As := [.int (nI a), .int (nI 5)]) (rest := [.ref m, .int (nI (4568 + 90 * a)), .ref m]) dX10_leaves_142 ml_X10_44 okX10_link0 stX10_link0 ⟨(Nat.le_of_ble_eq_true rfl), (Nat.le_of_ble_eq_true rfl)⟩ rfl rfl (Nat.le_of_ble_eq_true rfl) c_link0 ?_
        rintro _ q18 ⟨rfl, eq18⟩
        subst q18
        show zG l w mX10_leaves 145 [(5, .int (nI p)), (4, .int (nI i)), (3, .int (nI (4208 + 60 * a))), (2, .int (nI (rowC N a))), (0, .ref m), (1, .int (nI a))] [.int (nI (8 + 40 * a + 5)), .ref m, .int (nI (4568 + 90 * a)), .ref m] y17 _
        refine g_invv (M' := mX10_at) (As := [.int (nI (8 + 40 * a + 5))]) (rest := [.int (nI (4568 + 90 * a)), .ref m]) dX10_leaves_145 ml_X10_58 okX10_at imX10_at seX10_at ⟨(Nat.le_of_ble_eq_true rfl), (Nat.le_of_ble_eq_true rfl)⟩ (ci := 10) rfl rfl r17.1.1 rfl rfl (Nat.le_of_ble_eq_true rfl) (c_atWired r17 (by omega)) ?_
        rintro _ q19 ⟨rfl, eq19⟩
        subst q19
        show zG l w mX10_leaves 148 [(5, .int (nI p)), (4, .int (nI i)), (3, .int (nI (4208 + 60 * a))), (2, .int (nI (rowC N a))), (0, .ref m), (1, .int (nI a))] [.int (nI (nW (uA (uA (uA (uA N1 (368 + 8 * p + 5) (min (nA N1 (368 + 8 * p + 5)) (shareN N1 a p))) (8 + 40 * a + 12) (gotN N1 a p)) (8 + 40 * a + 13) (tookN N1 a)) (368 + 8 * p + 6) ((nA N1 2) + (nA N1 (8 + 40 * a + 1)))) a).length), .int (nI (4568 + 90 * a)), .ref m] y17 _
        refine g_iadd dX10_leaves_148 ?_
        rw [nI_add (4568 + 90 * a) ((nW (uA (uA (uA (uA N1 (368 + 8 * p + 5) (min (nA N1 (368 + 8 * p + 5)) (shareN N1 a p))) (8 + 40 * a + 12) (gotN N1 a p)) (8 + 40 * a + 13) (tookN N1 a)) (368 + 8 * p + 6) ((nA N1 2) + (nA N1 (8 + 40 * a + 1)))) a).length)]
        refine g_iload 0 dX10_leaves_149 rfl ?_
        refine g_i2l dX10_leaves_151 ?_
        rw [nI_l (by omega), ← jL_nat]
        refine g_invv (M' := mX10_puts) (As := [.int (nI (4568 + 90 * a + (nW (uA (uA (uA (uA N1 (368 + 8 * p + 5) (min (nA N1 (368 + 8 * p + 5)) (shareN N1 a p))) (8 + 40 * a + 12) (gotN N1 a p)) (8 + 40 * a + 13) (tookN N1 a)) (368 + 8 * p + 6) ((nA N1 2) + (nA N1 (8 + 40 * a + 1)))) a).length)), .long (jL ((p : Nat) : Int))]) (rest := []) dX10_leaves_152 ml_X10_40 okX10_puts imX10_puts seX10_puts ⟨(Nat.le_of_ble_eq_true rfl), (Nat.le_of_ble_eq_true rfl)⟩ (ci := 10) rfl rfl r17.1.1 rfl rfl (Nat.le_of_ble_eq_true rfl) (c_putsW r17 hF a6 hW90) ?_
        rintro _ y20 ⟨rfl, ⟨r20, e20⟩, f20⟩
        show zG l w mX10_leaves 155 [(5, .int (nI p)), (4, .int (nI i)), (3, .int (nI (4208 + 60 * a))), (2, .int (nI (rowC N a))), (0, .ref m), (1, .int (nI a))] [] y20 _
        refine g_aload_n 4 dX10_leaves_155 rfl rfl ?_
        refine g_iload_n 5 dX10_leaves_156 rfl rfl ?_
        refine g_iconst (v := nI 5) dX10_leaves_157 (by decide) ?_
        refine g_invs (M' := mX10_link0) (As := [.int (nI a), .int (nI 5)]) (rest := [.ref m]) dX10_leaves_158 ml_X10_44 okX10_link0 stX10_link0 ⟨(Nat.le_of_ble_eq_true rfl), (Nat.le_of_ble_eq_true rfl)⟩ rfl rfl (Nat.le_of_ble_eq_true rfl) c_link0 ?_
        rintro _ q21 ⟨rfl, eq21⟩
        subst q21
        show zG l w mX10_leaves 161 [(5, .int (nI p)), (4, .int (nI i)), (3, .int (nI (4208 + 60 * a))), (2, .int (nI (rowC N a))), (0, .ref m), (1, .int (nI a))] [.int (nI (8 + 40 * a + 5)), .ref m] y20 _
        refine g_lconst (v := jL 1) dX10_leaves_161 (by decide) ?_
        refine g_invv (M' := mX10_adds) (As := [.int (nI (8 + 40 * a + 5)), .long (jL 1)]) (rest := []) dX10_leaves_162 ml_X10_76 okX10_adds imX10_adds seX10_adds ⟨(Nat.le_of_ble_eq_true rfl), (Nat.le_of_ble_eq_true rfl)⟩ (ci := 10) rfl rfl r20.1.1 rfl rfl (Nat.le_of_ble_eq_true rfl) (c_addsW r20 a6 e20) ?_
        rintro _ y22 ⟨rfl, r22, f22⟩
        show zG l w mX10_leaves 165 [(5, .int (nI p)), (4, .int (nI i)), (3, .int (nI (4208 + 60 * a))), (2, .int (nI (rowC N a))), (0, .ref m), (1, .int (nI a))] [] y22 _
        refine g_aload_n 4 dX10_leaves_165 rfl rfl ?_
        refine g_iload_n 5 dX10_leaves_166 rfl rfl ?_
        refine g_bipush (v := nI 16) dX10_leaves_167 (by decide) ?_
        refine g_invs (M' := mX10_link0) (As := [.int (nI a), .int (nI 16)]) (rest := [.ref m]) dX10_leaves_169 ml_X10_44 okX10_link0 stX10_link0 ⟨(Nat.le_of_ble_eq_true rfl), (Nat.le_of_ble_eq_true rfl)⟩ rfl rfl (Nat.le_of_ble_eq_true rfl) c_link0 ?_
        rintro _ q23 ⟨rfl, eq23⟩
        subst q23
        show zG l w mX10_leaves 172 [(5, .int (nI p)), (4, .int (nI i)), (3, .int (nI (4208 + 60 * a))), (2, .int (nI (rowC N a))), (0, .ref m), (1, .int (nI a))] [.int (nI (8 + 40 * a + 16)), .ref m] y22 _
        refine g_lconst (v := jL 1) dX10_leaves_172 (by decide) ?_
        refine g_invv (M' := mX10_adds) (As := [.int (nI (8 + 40 * a + 16)), .long (jL 1)]) (rest := []) dX10_leaves_173 ml_X10_76 okX10_adds imX10_adds seX10_adds ⟨(Nat.le_of_ble_eq_true rfl), (Nat.le_of_ble_eq_true rfl)⟩ (ci := 10) rfl rfl r22.1.1 rfl rfl (Nat.le_of_ble_eq_true rfl) (c_addsN r22 (by omega) (by unfold nSp; omega)) ?_
        rintro _ y24 ⟨rfl, r24, f24⟩
        rw [show nA (uW (uA (uA (uA (uA N1 (368 + 8 * p + 5) (min (nA N1 (368 + 8 * p + 5)) (shareN N1 a p))) (8 + 40 * a + 12) (gotN N1 a p)) (8 + 40 * a + 13) (tookN N1 a)) (368 + 8 * p + 6) ((nA N1 2) + (nA N1 (8 + 40 * a + 1)))) a (nW (uA (uA (uA (uA N1 (368 + 8 * p + 5) (min (nA N1 (368 + 8 * p + 5)) (shareN N1 a p))) (8 + 40 * a + 12) (gotN N1 a p)) (8 + 40 * a + 13) (tookN N1 a)) (368 + 8 * p + 6) ((nA N1 2) + (nA N1 (8 + 40 * a + 1)))) a ++ [p])) (8 + 40 * a + 16) = nA N1 (8 + 40 * a + 16) by rw [nA_uW, nA_ne (by omega), nA_ne (by omega), nA_ne (by omega), nA_ne (by omega)]] at r24
        show zG l w mX10_leaves 176 [(5, .int (nI p)), (4, .int (nI i)), (3, .int (nI (4208 + 60 * a))), (2, .int (nI (rowC N a))), (0, .ref m), (1, .int (nI a))] [] y24 _
        refine g_inc (v := nI (i + 1)) (lv2 := [(4, .int (nI (i + 1))), (5, .int (nI p)), (3, .int (nI (4208 + 60 * a))), (2, .int (nI (rowC N a))), (0, .ref m), (1, .int (nI a))]) 1 dX10_leaves_176 rfl (nI_add _ 1) (by decide) rfl ?_
        refine g_goto (tgt := 29) dX10_leaves_179 (by decide) ?_
        refine zG.sub [0, 2, 3, 4, 5] rfl (ih (i + 1) (by omega) y24 _ rfl ?_ (((((((fr'.tr f7).tr f10).tr f13).tr f17).tr f20).tr f22).tr f24))
        rw [lw_succ hp, ← hN1]
        exact r24
  refine g_aload_n 0 dX10_leaves_0 rfl rfl ?_
  refine g_iload_n 1 dX10_leaves_1 rfl rfl ?_
  refine g_iconst (v := nI 0) dX10_leaves_2 (by decide) ?_
  refine g_invv (M' := mX10_ofLink) (As := [.int (nI a), .int (nI 0)]) (rest := []) dX10_leaves_3 ml_X10_69 okX10_ofLink imX10_ofLink seX10_ofLink ⟨(Nat.le_of_ble_eq_true rfl), (Nat.le_of_ble_eq_true rfl)⟩ (ci := 10) rfl rfl r.1.1 rfl rfl (Nat.le_of_ble_eq_true rfl) (c_ofLinkN r (by omega) (by unfold nSp; omega)) ?_
  rintro _ q1 ⟨rfl, eq1⟩
  subst q1
  show zG l w mX10_leaves 6 [(0, .ref m), (1, .int (nI a))] [.long (jL (nA N (8 + 40 * a + 0)))] h _
  refine g_aload_n 0 dX10_leaves_6 rfl rfl ?_
  refine g_iload_n 1 dX10_leaves_7 rfl rfl ?_
  refine g_iconst (v := nI 4) dX10_leaves_8 (by decide) ?_
  refine g_invv (M' := mX10_ofLink) (As := [.int (nI a), .int (nI 4)]) (rest := [.long (jL (nA N (8 + 40 * a + 0)))]) dX10_leaves_9 ml_X10_69 okX10_ofLink imX10_ofLink seX10_ofLink ⟨(Nat.le_of_ble_eq_true rfl), (Nat.le_of_ble_eq_true rfl)⟩ (ci := 10) rfl rfl r.1.1 rfl rfl (Nat.le_of_ble_eq_true rfl) (c_ofStood r (by omega)) ?_
  rintro _ q2 ⟨rfl, eq2⟩
  subst q2
  show zG l w mX10_leaves 12 [(0, .ref m), (1, .int (nI a))] [.long (lN (nR N a).length), .long (jL (nA N (8 + 40 * a + 0)))] h _
  rw [← jL_nat]
  have b0 := hI.B (8 + 40 * a + 0) (by omega)
  refine g_invs (M' := mJ9_min_f86c9) (As := [.long (jL (nA N (8 + 40 * a + 0))), .long (jL (((nR N a).length : Nat) : Int))]) (rest := []) dX10_leaves_12 ml_X10_113 okJ9_min_f86c9 stJ9_min_f86c9 ⟨(Nat.le_of_ble_eq_true rfl), (Nat.le_of_ble_eq_true rfl)⟩ rfl rfl (Nat.le_of_ble_eq_true rfl) (c_minL (by omega) (by omega)) ?_
  rintro _ q3 ⟨rfl, eq3⟩
  subst q3
  show zG l w mX10_leaves 15 [(0, .ref m), (1, .int (nI a))] [.long (jL (min (nA N (8 + 40 * a + 0)) ((nR N a).length : Int)))] h _
  refine g_l2i dX10_leaves_15 ?_
  rw [jL_i]
  rw [show jI (min (nA N (8 + 40 * a + 0)) ((nR N a).length : Int)) = nI (rowC N a) by rw [← jI_nat]; unfold rowC; congr 1; omega]
  refine g_istore_n (lv2 := [(2, .int (nI (rowC N a))), (0, .ref m), (1, .int (nI a))]) dX10_leaves_16 rfl (by decide) rfl ?_
  refine g_sipush (v := nI 4208) dX10_leaves_17 (by decide) ?_
  refine g_bipush (v := nI 60) dX10_leaves_20 (by decide) ?_
  refine g_iload_n 2 dX10_leaves_22 rfl rfl ?_
  refine g_imul dX10_leaves_23 ?_
  rw [pk_mul 60 a]
  refine g_iadd dX10_leaves_24 ?_
  rw [nI_add 4208 (60 * a)]
  refine g_istore_n (lv2 := [(3, .int (nI (4208 + 60 * a))), (2, .int (nI (rowC N a))), (0, .ref m), (1, .int (nI a))]) dX10_leaves_25 rfl (by decide) rfl ?_
  refine g_iconst (v := nI 0) dX10_leaves_26 (by decide) ?_
  refine g_istore (lv2 := [(4, .int (nI 0)), (3, .int (nI (4208 + 60 * a))), (2, .int (nI (rowC N a))), (0, .ref m), (1, .int (nI a))]) dX10_leaves_27 (by decide) rfl ?_
  exact loop _ 0 (Nat.zero_add _) h N rfl r FrM.rf
end M12
