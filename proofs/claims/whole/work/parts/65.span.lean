section M14
variable {l : Launch} {w : zW} {h : zH} {m : Nat} {N : nT} {a f : Nat}
theorem catN0_ne {k : Nat} (h1 : k ≠ 8 + 40 * a + 14) : nA (catN0 a N f) k = nA N k := by
  unfold catN0
  split
  · rfl
  · rw [nA_ev, nA_ne h1]
theorem cf_keep {k : Nat} (h1 : k ≠ 8 + 40 * a + 14) : ∀ (L : List Nat) (M : nT), (∀ f, f ∈ L → k ≠ 8 + 40 * a + (20 + f)) → nA (L.foldl (catchN a) M) k = nA M k := by
  intro L
  induction L with
  | nil => intro M _; rfl
  | cons f L ih =>
    intro M hL
    rw [List.foldl_cons, ih _ (fun g hg => hL g (List.mem_cons_of_mem _ hg))]
    exact catchN_ne h1 (hL f (List.mem_cons_self))
/-- the nets of the loop, and the count -/
def cfN (N : nT) (a i : Nat) : nT := (List.range i).foldl (catchN a) (sp1 N a)
def cmN (N : nT) (a i : Nat) : Nat := ((List.range i).filter fun f => decide (0 < nA N (8 + 40 * a + (20 + f)))).length
theorem cfN_succ {i : Nat} : cfN N a (i + 1) = uA (catN0 a (cfN N a i) i) (8 + 40 * a + (20 + i)) 0 := by
  unfold cfN
  rw [List.range_succ, List.foldl_append]
  rfl
theorem cmN_succ {i : Nat} : cmN N a (i + 1) = cmN N a i + if 0 < nA N (8 + 40 * a + (20 + i)) then 1 else 0 := by
  unfold cmN
  rw [List.range_succ, List.filter_append, List.length_append]
  congr 1
  by_cases c : 0 < nA N (8 + 40 * a + (20 + i))
  · rw [List.filter_cons_of_pos (by exact decide_eq_true c), if_pos c]; rfl
  · rw [List.filter_cons_of_neg (by simpa using c), if_neg c]; rfl
theorem cmN_le {i : Nat} : cmN N a i ≤ i := Nat.le_trans (List.length_filter_le _ _) (by rw [List.length_range]; exact Nat.le_refl _)
theorem cfN_in (h : iN [] N) (ha : (a : Int) < nA N 0) {i : Nat} (hi : (i : Int) ≤ nA N 1) : iN [] (cfN N a i) ∧ (∀ k, k ≠ 8 + 40 * a + 14 → (k < 8 + 40 * a + 8 ∨ (8 + 40 * a + 14 ≤ k ∧ k < 8 + 40 * a + 20) ∨ 8 + 40 * a + 20 + i ≤ k) → nA (cfN N a i) k = nA N k) ∧ nW (cfN N a i) = nW N := by
  have e0 : nA (sp1 N a) 0 = nA N 0 := sp1_ne (by omega)
  have e1 : nA (sp1 N a) 1 = nA N 1 := sp1_ne (by omega)
  have c := catch_fold (X := []) (a := a) (List.range i) (sp1 N a) (h.spa ha) (by rw [e0]; exact ha) (fun f hf => by have := List.mem_range.mp hf; rw [e1]; omega)
  refine ⟨c.1, fun k hk hk2 => ?_, c.2.2.2.2.1⟩
  unfold cfN
  rw [cf_keep hk _ _ (fun f hf => by have := List.mem_range.mp hf; omega)]
  exact sp1_ne (by omega)
theorem spn_end (hI : iN [] N) (ha : (a : Int) < nA N 0) {h' : zH} {N1 : nT} {i : Nat} (hi : (i : Int) = nA N 1) (hN1 : N1 = cfN N a i) (r' : MoN h' m N1) (fr' : FrM m h h') : zG l w mX10_spanEnds 239 [(11, .int (nI i)), (10, .int (nI (cmN N a i))), (8, .long (jL (spS N a))), (6, .long (jL (spQ N a))), (4, .long (jL (spT N a))), (2, .long (jL (nA N (8 + 40 * a + 6)))), (0, .ref m), (1, .int (nI a))] [] h' (fun v h1 => v = none ∧ MoN h1 m (spanN N a) ∧ FrM m h h1) := by
  have H0 := hI.H.1
  have H1 := hI.H.2.1
  have a6 : a < 6 := by omega
  have L := hI.L a ha
  have tb := spT_bd L
  have L6 := L.2.1
  have cb := @cmN_le N a i
  have C := cfN_in hI ha (i := i) (by omega)
  have k2 : nA N1 (8 + 40 * a + 2) = nA N (8 + 40 * a + 2) := by rw [hN1]; exact C.2.1 _ (by omega) (by omega)
  have k16 : nA N1 (8 + 40 * a + 16) = nA N (8 + 40 * a + 16) := by rw [hN1]; exact C.2.1 _ (by omega) (by omega)
  refine g_aload_n 6 dX10_spanEnds_239 rfl rfl ?_
  refine g_iload_n 7 dX10_spanEnds_240 rfl rfl ?_
  refine g_bipush (v := nI 15) dX10_spanEnds_241 (by decide) ?_
  refine g_invs (M' := mX10_link0) (As := [.int (nI a), .int (nI 15)]) (rest := [.ref m]) dX10_spanEnds_243 ml_X10_44 okX10_link0 stX10_link0 ⟨(Nat.le_of_ble_eq_true rfl), (Nat.le_of_ble_eq_true rfl)⟩ rfl rfl (Nat.le_of_ble_eq_true rfl) c_link0 ?_
  rintro _ q1 ⟨rfl, eq1⟩
  subst q1
  show zG l w mX10_spanEnds 246 [(11, .int (nI i)), (10, .int (nI (cmN N a i))), (8, .long (jL (spS N a))), (6, .long (jL (spQ N a))), (4, .long (jL (spT N a))), (2, .long (jL (nA N (8 + 40 * a + 6)))), (0, .ref m), (1, .int (nI a))] [.int (nI (8 + 40 * a + 15)), .ref m] h' _
  refine g_lconst (v := jL 1) dX10_spanEnds_246 (by decide) ?_
  refine g_lload 4 dX10_spanEnds_247 rfl ?_
  refine g_iconst (v := nI 1) dX10_spanEnds_249 (by decide) ?_
  refine g_iload 1 dX10_spanEnds_250 rfl ?_
  rw [← jI_nat 1, ← jI_nat (cmN N a i)]
  refine g_invs (M' := mJ9_max_7cf53) (As := [.int (jI ((1 : Nat) : Int)), .int (jI ((cmN N a i : Nat) : Int))]) (rest := [.long (jL (spT N a)), .long (jL 1), .int (nI (8 + 40 * a + 15)), .ref m]) dX10_spanEnds_252 ml_X10_171 okJ9_max_7cf53 stJ9_max_7cf53 ⟨(Nat.le_of_ble_eq_true rfl), (Nat.le_of_ble_eq_true rfl)⟩ rfl rfl (Nat.le_of_ble_eq_true rfl) (c_maxI (by omega) (by omega)) ?_
  rintro _ q2 ⟨rfl, eq2⟩
  subst q2
  show zG l w mX10_spanEnds 255 [(11, .int (nI i)), (10, .int (nI (cmN N a i))), (8, .long (jL (spS N a))), (6, .long (jL (spQ N a))), (4, .long (jL (spT N a))), (2, .long (jL (nA N (8 + 40 * a + 6)))), (0, .ref m), (1, .int (nI a))] [.int (jI (max ((1 : Nat) : Int) ((cmN N a i : Nat) : Int))), .long (jL (spT N a)), .long (jL 1), .int (nI (8 + 40 * a + 15)), .ref m] h' _
  refine g_i2l dX10_spanEnds_255 ?_
  rw [jI_l (by omega) (by omega)]
  refine g_ldiv dX10_spanEnds_256 (jL_ne0 (by omega)) ?_
  rw [jL_div (by omega) (by omega)]
  have db : 0 ≤ (spT N a / (max ((1 : Nat) : Int) ((cmN N a i : Nat) : Int))) ∧ (spT N a / (max ((1 : Nat) : Int) ((cmN N a i : Nat) : Int))) ≤ spT N a := ⟨Int.ediv_nonneg (by omega) (by omega), Int.ediv_le_self _ (by omega)⟩
  refine g_invs (M' := mJ9_max_f86c9) (As := [.long (jL 1), .long (jL ((spT N a) / (max ((1 : Nat) : Int) ((cmN N a i : Nat) : Int))))]) (rest := [.int (nI (8 + 40 * a + 15)), .ref m]) dX10_spanEnds_257 ml_X10_87 okJ9_max_f86c9 stJ9_max_f86c9 ⟨(Nat.le_of_ble_eq_true rfl), (Nat.le_of_ble_eq_true rfl)⟩ rfl rfl (Nat.le_of_ble_eq_true rfl) (c_maxL (by omega) (by omega)) ?_
  rintro _ q3 ⟨rfl, eq3⟩
  subst q3
  show zG l w mX10_spanEnds 260 [(11, .int (nI i)), (10, .int (nI (cmN N a i))), (8, .long (jL (spS N a))), (6, .long (jL (spQ N a))), (4, .long (jL (spT N a))), (2, .long (jL (nA N (8 + 40 * a + 6)))), (0, .ref m), (1, .int (nI a))] [.long (jL (max 1 (spT N a / (max ((1 : Nat) : Int) ((cmN N a i : Nat) : Int))))), .int (nI (8 + 40 * a + 15)), .ref m] h' _
  refine g_invv (M' := mX10_puts) (As := [.int (nI (8 + 40 * a + 15)), .long (jL (max 1 (spT N a / (max ((1 : Nat) : Int) ((cmN N a i : Nat) : Int)))))]) (rest := []) dX10_spanEnds_260 ml_X10_40 okX10_puts imX10_puts seX10_puts ⟨(Nat.le_of_ble_eq_true rfl), (Nat.le_of_ble_eq_true rfl)⟩ (ci := 10) rfl rfl r'.1.1 rfl rfl (Nat.le_of_ble_eq_true rfl) (c_putsN r' (by omega) (by unfold nSp; omega)) ?_
  rintro _ y4 ⟨rfl, r4, f4⟩
  show zG l w mX10_spanEnds 263 [(11, .int (nI i)), (10, .int (nI (cmN N a i))), (8, .long (jL (spS N a))), (6, .long (jL (spQ N a))), (4, .long (jL (spT N a))), (2, .long (jL (nA N (8 + 40 * a + 6)))), (0, .ref m), (1, .int (nI a))] [] y4 _
  refine g_aload_n 6 dX10_spanEnds_263 rfl rfl ?_
  refine g_iload_n 7 dX10_spanEnds_264 rfl rfl ?_
  refine g_bipush (v := nI 6) dX10_spanEnds_265 (by decide) ?_
  refine g_invs (M' := mX10_link0) (As := [.int (nI a), .int (nI 6)]) (rest := [.ref m]) dX10_spanEnds_267 ml_X10_44 okX10_link0 stX10_link0 ⟨(Nat.le_of_ble_eq_true rfl), (Nat.le_of_ble_eq_true rfl)⟩ rfl rfl (Nat.le_of_ble_eq_true rfl) c_link0 ?_
  rintro _ q5 ⟨rfl, eq5⟩
  subst q5
  show zG l w mX10_spanEnds 270 [(11, .int (nI i)), (10, .int (nI (cmN N a i))), (8, .long (jL (spS N a))), (6, .long (jL (spQ N a))), (4, .long (jL (spT N a))), (2, .long (jL (nA N (8 + 40 * a + 6)))), (0, .ref m), (1, .int (nI a))] [.int (nI (8 + 40 * a + 6)), .ref m] y4 _
  refine g_lconst (v := jL 0) dX10_spanEnds_270 (by decide) ?_
  refine g_invv (M' := mX10_puts) (As := [.int (nI (8 + 40 * a + 6)), .long (jL 0)]) (rest := []) dX10_spanEnds_271 ml_X10_40 okX10_puts imX10_puts seX10_puts ⟨(Nat.le_of_ble_eq_true rfl), (Nat.le_of_ble_eq_true rfl)⟩ (ci := 10) rfl rfl r4.1.1 rfl rfl (Nat.le_of_ble_eq_true rfl) (c_putsN r4 (by omega) (by unfold nSp; omega)) ?_
  rintro _ y6 ⟨rfl, r6, f6⟩
  show zG l w mX10_spanEnds 274 [(11, .int (nI i)), (10, .int (nI (cmN N a i))), (8, .long (jL (spS N a))), (6, .long (jL (spQ N a))), (4, .long (jL (spT N a))), (2, .long (jL (nA N (8 + 40 * a + 6)))), (0, .ref m), (1, .int (nI a))] [] y6 _
  refine g_aload_n 6 dX10_spanEnds_274 rfl rfl ?_
  refine g_iload_n 7 dX10_spanEnds_275 rfl rfl ?_
  refine g_bipush (v := nI 18) dX10_spanEnds_276 (by decide) ?_
  refine g_invs (M' := mX10_link0) (As := [.int (nI a), .int (nI 18)]) (rest := [.ref m]) dX10_spanEnds_278 ml_X10_44 okX10_link0 stX10_link0 ⟨(Nat.le_of_ble_eq_true rfl), (Nat.le_of_ble_eq_true rfl)⟩ rfl rfl (Nat.le_of_ble_eq_true rfl) c_link0 ?_
  rintro _ q7 ⟨rfl, eq7⟩
  subst q7
  show zG l w mX10_spanEnds 281 [(11, .int (nI i)), (10, .int (nI (cmN N a i))), (8, .long (jL (spS N a))), (6, .long (jL (spQ N a))), (4, .long (jL (spT N a))), (2, .long (jL (nA N (8 + 40 * a + 6)))), (0, .ref m), (1, .int (nI a))] [.int (nI (8 + 40 * a + 18)), .ref m] y6 _
  refine g_lconst (v := jL 0) dX10_spanEnds_281 (by decide) ?_
  refine g_invv (M' := mX10_puts) (As := [.int (nI (8 + 40 * a + 18)), .long (jL 0)]) (rest := []) dX10_spanEnds_282 ml_X10_40 okX10_puts imX10_puts seX10_puts ⟨(Nat.le_of_ble_eq_true rfl), (Nat.le_of_ble_eq_true rfl)⟩ (ci := 10) rfl rfl r6.1.1 rfl rfl (Nat.le_of_ble_eq_true rfl) (c_putsN r6 (by omega) (by unfold nSp; omega)) ?_
  rintro _ y8 ⟨rfl, r8, f8⟩
  show zG l w mX10_spanEnds 285 [(11, .int (nI i)), (10, .int (nI (cmN N a i))), (8, .long (jL (spS N a))), (6, .long (jL (spQ N a))), (4, .long (jL (spT N a))), (2, .long (jL (nA N (8 + 40 * a + 6)))), (0, .ref m), (1, .int (nI a))] [] y8 _
  refine g_aload_n 6 dX10_spanEnds_285 rfl rfl ?_
  refine g_iload_n 7 dX10_spanEnds_286 rfl rfl ?_
  refine g_bipush (v := nI 7) dX10_spanEnds_287 (by decide) ?_
  refine g_invs (M' := mX10_link0) (As := [.int (nI a), .int (nI 7)]) (rest := [.ref m]) dX10_spanEnds_289 ml_X10_44 okX10_link0 stX10_link0 ⟨(Nat.le_of_ble_eq_true rfl), (Nat.le_of_ble_eq_true rfl)⟩ rfl rfl (Nat.le_of_ble_eq_true rfl) c_link0 ?_
  rintro _ q9 ⟨rfl, eq9⟩
  subst q9
  show zG l w mX10_spanEnds 292 [(11, .int (nI i)), (10, .int (nI (cmN N a i))), (8, .long (jL (spS N a))), (6, .long (jL (spQ N a))), (4, .long (jL (spT N a))), (2, .long (jL (nA N (8 + 40 * a + 6)))), (0, .ref m), (1, .int (nI a))] [.int (nI (8 + 40 * a + 7)), .ref m] y8 _
  refine g_aload_n 6 dX10_spanEnds_292 rfl rfl ?_
  refine g_iload_n 7 dX10_spanEnds_293 rfl rfl ?_
  refine g_iconst (v := nI 2) dX10_spanEnds_294 (by decide) ?_
  refine g_invv (M' := mX10_ofLink) (As := [.int (nI a), .int (nI 2)]) (rest := [.int (nI (8 + 40 * a + 7)), .ref m]) dX10_spanEnds_295 ml_X10_69 okX10_ofLink imX10_ofLink seX10_ofLink ⟨(Nat.le_of_ble_eq_true rfl), (Nat.le_of_ble_eq_true rfl)⟩ (ci := 10) rfl rfl r8.1.1 rfl rfl (Nat.le_of_ble_eq_true rfl) (c_ofLinkN r8 (by omega) (by unfold nSp; omega)) ?_
  rintro _ q10 ⟨rfl, eq10⟩
  subst q10
  show zG l w mX10_spanEnds 298 [(11, .int (nI i)), (10, .int (nI (cmN N a i))), (8, .long (jL (spS N a))), (6, .long (jL (spQ N a))), (4, .long (jL (spT N a))), (2, .long (jL (nA N (8 + 40 * a + 6)))), (0, .ref m), (1, .int (nI a))] [.long (jL (nA (uA (uA (uA N1 (8 + 40 * a + 15) (max 1 (spT N a / (max ((1 : Nat) : Int) ((cmN N a i : Nat) : Int))))) (8 + 40 * a + 6) 0) (8 + 40 * a + 18) 0) (8 + 40 * a + 2))), .int (nI (8 + 40 * a + 7)), .ref m] y8 _
  rw [show nA (uA (uA (uA N1 (8 + 40 * a + 15) (max 1 (spT N a / (max ((1 : Nat) : Int) ((cmN N a i : Nat) : Int))))) (8 + 40 * a + 6) 0) (8 + 40 * a + 18) 0) (8 + 40 * a + 2) = nA N1 (8 + 40 * a + 2) by rw [nA_ne (by omega), nA_ne (by omega), nA_ne (by omega)]]
  refine g_invv (M' := mX10_puts) (As := [.int (nI (8 + 40 * a + 7)), .long (jL (nA N1 (8 + 40 * a + 2)))]) (rest := []) dX10_spanEnds_298 ml_X10_40 okX10_puts imX10_puts seX10_puts ⟨(Nat.le_of_ble_eq_true rfl), (Nat.le_of_ble_eq_true rfl)⟩ (ci := 10) rfl rfl r8.1.1 rfl rfl (Nat.le_of_ble_eq_true rfl) (c_putsN r8 (by omega) (by unfold nSp; omega)) ?_
  rintro _ y11 ⟨rfl, r11, f11⟩
  show zG l w mX10_spanEnds 301 [(11, .int (nI i)), (10, .int (nI (cmN N a i))), (8, .long (jL (spS N a))), (6, .long (jL (spQ N a))), (4, .long (jL (spT N a))), (2, .long (jL (nA N (8 + 40 * a + 6)))), (0, .ref m), (1, .int (nI a))] [] y11 _
  refine g_aload_n 6 dX10_spanEnds_301 rfl rfl ?_
  refine g_iload_n 7 dX10_spanEnds_302 rfl rfl ?_
  refine g_bipush (v := nI 17) dX10_spanEnds_303 (by decide) ?_
  refine g_invs (M' := mX10_link0) (As := [.int (nI a), .int (nI 17)]) (rest := [.ref m]) dX10_spanEnds_305 ml_X10_44 okX10_link0 stX10_link0 ⟨(Nat.le_of_ble_eq_true rfl), (Nat.le_of_ble_eq_true rfl)⟩ rfl rfl (Nat.le_of_ble_eq_true rfl) c_link0 ?_
  rintro _ q12 ⟨rfl, eq12⟩
  subst q12
  show zG l w mX10_spanEnds 308 [(11, .int (nI i)), (10, .int (nI (cmN N a i))), (8, .long (jL (spS N a))), (6, .long (jL (spQ N a))), (4, .long (jL (spT N a))), (2, .long (jL (nA N (8 + 40 * a + 6)))), (0, .ref m), (1, .int (nI a))] [.int (nI (8 + 40 * a + 17)), .ref m] y11 _
  refine g_aload_n 6 dX10_spanEnds_308 rfl rfl ?_
  refine g_iload_n 7 dX10_spanEnds_309 rfl rfl ?_
  refine g_bipush (v := nI 16) dX10_spanEnds_310 (by decide) ?_
  refine g_invv (M' := mX10_ofLink) (As := [.int (nI a), .int (nI 16)]) (rest := [.int (nI (8 + 40 * a + 17)), .ref m]) dX10_spanEnds_312 ml_X10_69 okX10_ofLink imX10_ofLink seX10_ofLink ⟨(Nat.le_of_ble_eq_true rfl), (Nat.le_of_ble_eq_true rfl)⟩ (ci := 10) rfl rfl r11.1.1 rfl rfl (Nat.le_of_ble_eq_true rfl) (c_ofLinkN r11 (by omega) (by unfold nSp; omega)) ?_
  rintro _ q13 ⟨rfl, eq13⟩
  subst q13
  show zG l w mX10_spanEnds 315 [(11, .int (nI i)), (10, .int (nI (cmN N a i))), (8, .long (jL (spS N a))), (6, .long (jL (spQ N a))), (4, .long (jL (spT N a))), (2, .long (jL (nA N (8 + 40 * a + 6)))), (0, .ref m), (1, .int (nI a))] [.long (jL (nA (uA (uA (uA (uA N1 (8 + 40 * a + 15) (max 1 (spT N a / (max ((1 : Nat) : Int) ((cmN N a i : Nat) : Int))))) (8 + 40 * a + 6) 0) (8 + 40 * a + 18) 0) (8 + 40 * a + 7) (nA N1 (8 + 40 * a + 2))) (8 + 40 * a + 16))), .int (nI (8 + 40 * a + 17)), .ref m] y11 _
  rw [show nA (uA (uA (uA (uA N1 (8 + 40 * a + 15) (max 1 (spT N a / (max ((1 : Nat) : Int) ((cmN N a i : Nat) : Int))))) (8 + 40 * a + 6) 0) (8 + 40 * a + 18) 0) (8 + 40 * a + 7) (nA N1 (8 + 40 * a + 2))) (8 + 40 * a + 16) = nA N1 (8 + 40 * a + 16) by rw [nA_ne (by omega), nA_ne (by omega), nA_ne (by omega), nA_ne (by omega)]]
  refine g_invv (M' := mX10_puts) (As := [.int (nI (8 + 40 * a + 17)), .long (jL (nA N1 (8 + 40 * a + 16)))]) (rest := []) dX10_spanEnds_315 ml_X10_40 okX10_puts imX10_puts seX10_puts ⟨(Nat.le_of_ble_eq_true rfl), (Nat.le_of_ble_eq_true rfl)⟩ (ci := 10) rfl rfl r11.1.1 rfl rfl (Nat.le_of_ble_eq_true rfl) (c_putsN r11 (by omega) (by unfold nSp; omega)) ?_
  rintro _ y14 ⟨rfl, r14, f14⟩
  show zG l w mX10_spanEnds 318 [(11, .int (nI i)), (10, .int (nI (cmN N a i))), (8, .long (jL (spS N a))), (6, .long (jL (spQ N a))), (4, .long (jL (spT N a))), (2, .long (jL (nA N (8 + 40 * a + 6)))), (0, .ref m), (1, .int (nI a))] [] y14 _
  refine g_aload_n 6 dX10_spanEnds_318 rfl rfl ?_
  refine g_iload_n 7 dX10_spanEnds_319 rfl rfl ?_
  refine g_bipush (v := nI 16) dX10_spanEnds_320 (by decide) ?_
  refine g_invs (M' := mX10_link0) (As := [.int (nI a), .int (nI 16)]) (rest := [.ref m]) dX10_spanEnds_322 ml_X10_44 okX10_link0 stX10_link0 ⟨(Nat.le_of_ble_eq_true rfl), (Nat.le_of_ble_eq_true rfl)⟩ rfl rfl (Nat.le_of_ble_eq_true rfl) c_link0 ?_
  rintro _ q15 ⟨rfl, eq15⟩
  subst q15
  show zG l w mX10_spanEnds 325 [(11, .int (nI i)), (10, .int (nI (cmN N a i))), (8, .long (jL (spS N a))), (6, .long (jL (spQ N a))), (4, .long (jL (spT N a))), (2, .long (jL (nA N (8 + 40 * a + 6)))), (0, .ref m), (1, .int (nI a))] [.int (nI (8 + 40 * a + 16)), .ref m] y14 _
  refine g_lconst (v := jL 0) dX10_spanEnds_325 (by decide) ?_
  refine g_invv (M' := mX10_puts) (As := [.int (nI (8 + 40 * a + 16)), .long (jL 0)]) (rest := []) dX10_spanEnds_326 ml_X10_40 okX10_puts imX10_puts seX10_puts ⟨(Nat.le_of_ble_eq_true rfl), (Nat.le_of_ble_eq_true rfl)⟩ (ci := 10) rfl rfl r14.1.1 rfl rfl (Nat.le_of_ble_eq_true rfl) (c_putsN r14 (by omega) (by unfold nSp; omega)) ?_
  rintro _ y16 ⟨rfl, r16, f16⟩
  show zG l w mX10_spanEnds 329 [(11, .int (nI i)), (10, .int (nI (cmN N a i))), (8, .long (jL (spS N a))), (6, .long (jL (spQ N a))), (4, .long (jL (spT N a))), (2, .long (jL (nA N (8 + 40 * a + 6)))), (0, .ref m), (1, .int (nI a))] [] y16 _
  refine g_return dX10_spanEnds_329 rfl ?_
  refine ⟨rfl, ?_, ((((((fr'.tr f4).tr f6).tr f8).tr f11).tr f14).tr f16)⟩
  have ec : ((cmN N a i : Nat) : Int) = cameN N a := by unfold cmN cameN; rw [show (nA N 1).toNat = i by omega]
  have e2 : cfN N a i = sp2 N a := by unfold cfN sp2; rw [show (nA N 1).toNat = i by omega]
  have q := r16
  rw [k2, k16, ec, hN1, e2] at q
  exact q
theorem spn_loop (hI : iN [] N) (hW : ∀ a, a < 6 → (nW N a).length ≤ 90) (ha : (a : Int) < nA N 0) : ∀ n i : Nat, ((i + n : Nat) : Int) = nA N 1 → ∀ (h' : zH) (N1 : nT), N1 = cfN N a i → MoN h' m N1 → FrM m h h' → zG l w mX10_spanEnds 175 [(11, .int (nI i)), (10, .int (nI (cmN N a i))), (8, .long (jL (spS N a))), (6, .long (jL (spQ N a))), (4, .long (jL (spT N a))), (2, .long (jL (nA N (8 + 40 * a + 6)))), (0, .ref m), (1, .int (nI a))] [] h' (fun v h1 => v = none ∧ MoN h1 m (spanN N a) ∧ FrM m h h1) := by
  have H0 := hI.H.1
  have H1 := hI.H.2.1
  have a6 : a < 6 := by omega
  have L := hI.L a ha
  have tb := spT_bd L
  have L6 := L.2.1
  intro n
  induction n with
  | zero =>
    intro i hi h' N1 hN1 r' fr'
    have C := cfN_in hI ha (i := i) (by omega)
    have k1 : nA N1 1 = nA N 1 := by rw [hN1]; exact C.2.1 1 (by omega) (by omega)
    have k0 : nA N1 0 = nA N 0 := by rw [hN1]; exact C.2.1 0 (by omega) (by omega)
    refine g_iload 0 dX10_spanEnds_175 rfl ?_
    refine g_i2l dX10_spanEnds_177 ?_
    rw [nI_l (by omega), ← jL_nat]
    refine g_aload_n 6 dX10_spanEnds_178 rfl rfl ?_
    refine g_iconst (v := nI 1) dX10_spanEnds_179 (by decide) ?_
    refine g_invv (M' := mX10_of) (As := [.int (nI 1)]) (rest := [.long (jL ((i : Nat) : Int))]) dX10_spanEnds_180 ml_X10_48 okX10_of imX10_of seX10_of ⟨(Nat.le_of_ble_eq_true rfl), (Nat.le_of_ble_eq_true rfl)⟩ (ci := 10) rfl rfl r'.1.1 rfl rfl (Nat.le_of_ble_eq_true rfl) (c_ofN r' (by omega) (by unfold nSp; omega)) ?_
    rintro _ q1 ⟨rfl, eq1⟩
    subst q1
    show zG l w mX10_spanEnds 183 [(11, .int (nI i)), (10, .int (nI (cmN N a i))), (8, .long (jL (spS N a))), (6, .long (jL (spQ N a))), (4, .long (jL (spT N a))), (2, .long (jL (nA N (8 + 40 * a + 6)))), (0, .ref m), (1, .int (nI a))] [.long (jL (nA N1 1)), .long (jL ((i : Nat) : Int))] h' _
    rw [k1]
    refine g_lif_ge (a := ((i : Nat) : Int)) (b := (nA N 1)) (tgt := 239) dX10_spanEnds_183 rfl dX10_spanEnds_184 (by decide) (by omega) (by omega) (fun c => ?_) (fun c => ?_)
    · exact spn_end hI ha (by omega) hN1 r' fr'
    · exact absurd c (by omega)
  | succ n ih =>
    intro i hi h' N1 hN1 r' fr'
    have C := cfN_in hI ha (i := i) (by omega)
    have k1 : nA N1 1 = nA N 1 := by rw [hN1]; exact C.2.1 1 (by omega) (by omega)
    have k0 : nA N1 0 = nA N 0 := by rw [hN1]; exact C.2.1 0 (by omega) (by omega)
    refine g_iload 0 dX10_spanEnds_175 rfl ?_
    refine g_i2l dX10_spanEnds_177 ?_
    rw [nI_l (by omega), ← jL_nat]
    refine g_aload_n 6 dX10_spanEnds_178 rfl rfl ?_
    refine g_iconst (v := nI 1) dX10_spanEnds_179 (by decide) ?_
    refine g_invv (M' := mX10_of) (As := [.int (nI 1)]) (rest := [.long (jL ((i : Nat) : Int))]) dX10_spanEnds_180 ml_X10_48 okX10_of imX10_of seX10_of ⟨(Nat.le_of_ble_eq_true rfl), (Nat.le_of_ble_eq_true rfl)⟩ (ci := 10) rfl rfl r'.1.1 rfl rfl (Nat.le_of_ble_eq_true rfl) (c_ofN r' (by omega) (by unfold nSp; omega)) ?_
    rintro _ q2 ⟨rfl, eq2⟩
    subst q2
    show zG l w mX10_spanEnds 183 [(11, .int (nI i)), (10, .int (nI (cmN N a i))), (8, .long (jL (spS N a))), (6, .long (jL (spQ N a))), (4, .long (jL (spT N a))), (2, .long (jL (nA N (8 + 40 * a + 6)))), (0, .ref m), (1, .int (nI a))] [.long (jL (nA N1 1)), .long (jL ((i : Nat) : Int))] h' _
    rw [k1]
    refine g_lif_ge (a := ((i : Nat) : Int)) (b := (nA N 1)) (tgt := 239) dX10_spanEnds_183 rfl dX10_spanEnds_184 (by decide) (by omega) (by omega) (fun c => ?_) (fun c => ?_)
    · exact absurd c (by omega)
    · have hI1 : iN [] N1 := by rw [hN1]; exact C.1
      have hW1 : ∀ a, a < 6 → (nW N1 a).length ≤ 90 := fun b hb => by rw [hN1, C.2.2]; exact hW b hb
      have cb := @cmN_le N a i
      have k20 : nA N1 (8 + 40 * a + (20 + i)) = nA N (8 + 40 * a + (20 + i)) := by rw [hN1]; exact C.2.1 _ (by omega) (by omega)
      refine g_aload_n 6 dX10_spanEnds_187 rfl rfl ?_
      refine g_iload_n 7 dX10_spanEnds_188 rfl rfl ?_
      refine g_iload 0 dX10_spanEnds_189 rfl ?_
      refine g_invv (M' := mX10_catches) (As := [.int (nI a), .int (nI i)]) (rest := []) dX10_spanEnds_191 ml_X10_168 okX10_catches imX10_catches seX10_catches ⟨(Nat.le_of_ble_eq_true rfl), (Nat.le_of_ble_eq_true rfl)⟩ (ci := 10) rfl rfl r'.1.1 rfl rfl (Nat.le_of_ble_eq_true rfl) (c_catches r' hI1 hW1 (by rw [k0]; exact ha) (by rw [k1]; omega)) ?_
      rintro _ y3 ⟨rfl, r3, f3⟩
      show zG l w mX10_spanEnds 194 [(11, .int (nI i)), (10, .int (nI (cmN N a i))), (8, .long (jL (spS N a))), (6, .long (jL (spQ N a))), (4, .long (jL (spT N a))), (2, .long (jL (nA N (8 + 40 * a + 6)))), (0, .ref m), (1, .int (nI a))] [] y3 _
      have e20 : nA (catN0 a N1 i) (8 + 40 * a + (20 + i)) = nA N (8 + 40 * a + (20 + i)) := by rw [catN0_ne (by omega)]; exact k20
      have b20 := hI.B (8 + 40 * a + (20 + i)) (by omega)
      refine g_iload 1 dX10_spanEnds_194 rfl ?_
      refine g_aload_n 6 dX10_spanEnds_196 rfl rfl ?_
      refine g_iload_n 7 dX10_spanEnds_197 rfl rfl ?_
      refine g_bipush (v := nI 20) dX10_spanEnds_198 (by decide) ?_
      refine g_iload 0 dX10_spanEnds_200 rfl ?_
      refine g_iadd dX10_spanEnds_202 ?_
      rw [nI_add 20 i]
      refine g_invv (M' := mX10_ofLink) (As := [.int (nI a), .int (nI (20 + i))]) (rest := [.int (nI (cmN N a i))]) dX10_spanEnds_203 ml_X10_69 okX10_ofLink imX10_ofLink seX10_ofLink ⟨(Nat.le_of_ble_eq_true rfl), (Nat.le_of_ble_eq_true rfl)⟩ (ci := 10) rfl rfl r3.1.1 rfl rfl (Nat.le_of_ble_eq_true rfl) (c_ofLinkN r3 (by omega) (by unfold nSp; omega)) ?_
      rintro _ q4 ⟨rfl, eq4⟩
      subst q4
      show zG l w mX10_spanEnds 206 [(11, .int (nI i)), (10, .int (nI (cmN N a i))), (8, .long (jL (spS N a))), (6, .long (jL (spQ N a))), (4, .long (jL (spT N a))), (2, .long (jL (nA N (8 + 40 * a + 6)))), (0, .ref m), (1, .int (nI a))] [.long (jL (nA (catN0 a N1 i) (8 + 40 * a + (20 + i)))), .int (nI (cmN N a i))] y3 _
      refine g_lconst (v := jL 0) dX10_spanEnds_206 (by decide) ?_
      rw [e20]
      refine g_lif_le (a := (nA N (8 + 40 * a + (20 + i)))) (b := 0) (tgt := 215) dX10_spanEnds_207 rfl dX10_spanEnds_208 (by decide) (by omega) (by omega) (fun d => ?_) (fun d => ?_)
      · refine g_iconst (v := nI 0) dX10_spanEnds_215 (by decide) ?_
        refine g_iadd dX10_spanEnds_216 ?_
        rw [nI_add (cmN N a i) 0]
        refine g_istore (lv2 := [(10, .int (nI (cmN N a i + 0))), (11, .int (nI i)), (8, .long (jL (spS N a))), (6, .long (jL (spQ N a))), (4, .long (jL (spT N a))), (2, .long (jL (nA N (8 + 40 * a + 6)))), (0, .ref m), (1, .int (nI a))]) dX10_spanEnds_217 (by decide) rfl ?_
        refine g_aload_n 6 dX10_spanEnds_219 rfl rfl ?_
        refine g_iload_n 7 dX10_spanEnds_220 rfl rfl ?_
        refine g_bipush (v := nI 20) dX10_spanEnds_221 (by decide) ?_
        refine g_iload 1 dX10_spanEnds_223 rfl ?_
        refine g_iadd dX10_spanEnds_225 ?_
        rw [nI_add 20 i]
        refine g_invs (M' := mX10_link0) (As := [.int (nI a), .int (nI (20 + i))]) (rest := [.ref m]) dX10_spanEnds_226 ml_X10_44 okX10_link0 stX10_link0 ⟨(Nat.le_of_ble_eq_true rfl), (Nat.le_of_ble_eq_true rfl)⟩ rfl rfl (Nat.le_of_ble_eq_true rfl) c_link0 ?_
        rintro _ q5 ⟨rfl, eq5⟩
        subst q5
        show zG l w mX10_spanEnds 229 [(10, .int (nI (cmN N a i + 0))), (11, .int (nI i)), (8, .long (jL (spS N a))), (6, .long (jL (spQ N a))), (4, .long (jL (spT N a))), (2, .long (jL (nA N (8 + 40 * a + 6)))), (0, .ref m), (1, .int (nI a))] [.int (nI (8 + 40 * a + (20 + i))), .ref m] y3 _
        refine g_lconst (v := jL 0) dX10_spanEnds_229 (by decide) ?_
        refine g_invv (M' := mX10_puts) (As := [.int (nI (8 + 40 * a + (20 + i))), .long (jL 0)]) (rest := []) dX10_spanEnds_230 ml_X10_40 okX10_puts imX10_puts seX10_puts ⟨(Nat.le_of_ble_eq_true rfl), (Nat.le_of_ble_eq_true rfl)⟩ (ci := 10) rfl rfl r3.1.1 rfl rfl (Nat.le_of_ble_eq_true rfl) (c_putsN r3 (by omega) (by unfold nSp; omega)) ?_
        rintro _ y6 ⟨rfl, r6, f6⟩
        show zG l w mX10_spanEnds 233 [(10, .int (nI (cmN N a i + 0))), (11, .int (nI i)), (8, .long (jL (spS N a))), (6, .long (jL (spQ N a))), (4, .long (jL (spT N a))), (2, .long (jL (nA N (8 + 40 * a + 6)))), (0, .ref m), (1, .int (nI a))] [] y6 _
        refine g_inc (v := nI (i + 1)) (lv2 := [(11, .int (nI (i + 1))), (10, .int (nI (cmN N a i + 0))), (8, .long (jL (spS N a))), (6, .long (jL (spQ N a))), (4, .long (jL (spT N a))), (2, .long (jL (nA N (8 + 40 * a + 6)))), (0, .ref m), (1, .int (nI a))]) 1 dX10_spanEnds_233 rfl (nI_add _ 1) (by decide) rfl ?_
        refine g_goto (tgt := 175) dX10_spanEnds_236 (by decide) ?_
        refine zG.sub [0, 1, 2, 3, 4, 5, 6, 7] ?_ (ih (i + 1) (by omega) y6 _ rfl ?_ ((fr'.tr f3).tr f6))
        · rw [cmN_succ, if_neg (by omega)]; rfl
        · rw [cfN_succ, ← hN1]; exact r6
      · refine g_iconst (v := nI 1) dX10_spanEnds_211 (by decide) ?_
        refine g_goto (tgt := 216) dX10_spanEnds_212 (by decide) ?_
        refine g_iadd dX10_spanEnds_216 ?_
        rw [nI_add (cmN N a i) 1]
        refine g_istore (lv2 := [(10, .int (nI (cmN N a i + 1))), (11, .int (nI i)), (8, .long (jL (spS N a))), (6, .long (jL (spQ N a))), (4, .long (jL (spT N a))), (2, .long (jL (nA N (8 + 40 * a + 6)))), (0, .ref m), (1, .int (nI a))]) dX10_spanEnds_217 (by decide) rfl ?_
        refine g_aload_n 6 dX10_spanEnds_219 rfl rfl ?_
        refine g_iload_n 7 dX10_spanEnds_220 rfl rfl ?_
        refine g_bipush (v := nI 20) dX10_spanEnds_221 (by decide) ?_
        refine g_iload 1 dX10_spanEnds_223 rfl ?_
        refine g_iadd dX10_spanEnds_225 ?_
        rw [nI_add 20 i]
        refine g_invs (M' := mX10_link0) (As := [.int (nI a), .int (nI (20 + i))]) (rest := [.ref m]) dX10_spanEnds_226 ml_X10_44 okX10_link0 stX10_link0 ⟨(Nat.le_of_ble_eq_true rfl), (Nat.le_of_ble_eq_true rfl)⟩ rfl rfl (Nat.le_of_ble_eq_true rfl) c_link0 ?_
        rintro _ q7 ⟨rfl, eq7⟩
        subst q7
        show zG l w mX10_spanEnds 229 [(10, .int (nI (cmN N a i + 1))), (11, .int (nI i)), (8, .long (jL (spS N a))), (6, .long (jL (spQ N a))), (4, .long (jL (spT N a))), (2, .long (jL (nA N (8 + 40 * a + 6)))), (0, .ref m), (1, .int (nI a))] [.int (nI (8 + 40 * a + (20 + i))), .ref m] y3 _
        refine g_lconst (v := jL 0) dX10_spanEnds_229 (by decide) ?_
        refine g_invv (M' := mX10_puts) (As := [.int (nI (8 + 40 * a + (20 + i))), .long (jL 0)]) (rest := []) dX10_spanEnds_230 ml_X10_40 okX10_puts imX10_puts seX10_puts ⟨(Nat.le_of_ble_eq_true rfl), (Nat.le_of_ble_eq_true rfl)⟩ (ci := 10) rfl rfl r3.1.1 rfl rfl (Nat.le_of_ble_eq_true rfl) (c_putsN r3 (by omega) (by unfold nSp; omega)) ?_
        rintro _ y8 ⟨rfl, r8, f8⟩
        show zG l w mX10_spanEnds 233 [(10, .int (nI (cmN N a i + 1))), (11, .int (nI i)), (8, .long (jL (spS N a))), (6, .long (jL (spQ N a))), (4, .long (jL (spT N a))), (2, .long (jL (nA N (8 + 40 * a + 6)))), (0, .ref m), (1, .int (nI a))] [] y8 _
        refine g_inc (v := nI (i + 1)) (lv2 := [(11, .int (nI (i + 1))), (10, .int (nI (cmN N a i + 1))), (8, .long (jL (spS N a))), (6, .long (jL (spQ N a))), (4, .long (jL (spT N a))), (2, .long (jL (nA N (8 + 40 * a + 6)))), (0, .ref m), (1, .int (nI a))]) 1 dX10_spanEnds_233 rfl (nI_add _ 1) (by decide) rfl ?_
        refine g_goto (tgt := 175) dX10_spanEnds_236 (by decide) ?_
        refine zG.sub [0, 1, 2, 3, 4, 5, 6, 7] ?_ (ih (i + 1) (by omega) y8 _ rfl ?_ ((fr'.tr f3).tr f8))
        · rw [cmN_succ, if_pos (by omega)]; rfl
        · rw [cfN_succ, ← hN1]; exact r8
theorem c_spanEnds (r : MoN h m N) (hI : iN [] N) (hW : ∀ a, a < 6 → (nW N a).length ≤ 90) (ha : (a : Int) < nA N 0) : zM l w mX10_spanEnds [.ref m, .int (nI a)] h (fun v h1 => v = none ∧ MoN h1 m (spanN N a) ∧ FrM m h h1) := by
  refine zM.of (by decide) (Nat.le_of_ble_eq_true rfl) ?_
  have H0 := hI.H.1
  have H1 := hI.H.2.1
  have a6 : a < 6 := by omega
  have L := hI.L a ha
  have tb := spT_bd L
  have L6 := L.2.1
  have b1 := sp_bd L
  have hB := hI.B
  have eT : nA N (8 + 40 * a + 0) * nA N (8 + 40 * a + 3) = spT N a := rfl
  refine g_aload_n 0 dX10_spanEnds_0 rfl rfl ?_
  refine g_iload_n 1 dX10_spanEnds_1 rfl rfl ?_
  refine g_bipush (v := nI 6) dX10_spanEnds_2 (by decide) ?_
  refine g_invv (M' := mX10_ofLink) (As := [.int (nI a), .int (nI 6)]) (rest := []) dX10_spanEnds_4 ml_X10_69 okX10_ofLink imX10_ofLink seX10_ofLink ⟨(Nat.le_of_ble_eq_true rfl), (Nat.le_of_ble_eq_true rfl)⟩ (ci := 10) rfl rfl r.1.1 rfl rfl (Nat.le_of_ble_eq_true rfl) (c_ofLinkN r (by omega) (by unfold nSp; omega)) ?_
  rintro _ q1 ⟨rfl, eq1⟩
  subst q1
  show zG l w mX10_spanEnds 7 [(0, .ref m), (1, .int (nI a))] [.long (jL (nA N (8 + 40 * a + 6)))] h _
  refine g_lstore_n (lv2 := [(2, .long (jL (nA N (8 + 40 * a + 6)))), (0, .ref m), (1, .int (nI a))]) dX10_spanEnds_7 rfl (by decide) rfl ?_
  refine g_aload_n 1 dX10_spanEnds_8 rfl rfl ?_
  refine g_iload_n 2 dX10_spanEnds_9 rfl rfl ?_
  refine g_iconst (v := nI 0) dX10_spanEnds_10 (by decide) ?_
  refine g_invv (M' := mX10_ofLink) (As := [.int (nI a), .int (nI 0)]) (rest := []) dX10_spanEnds_11 ml_X10_69 okX10_ofLink imX10_ofLink seX10_ofLink ⟨(Nat.le_of_ble_eq_true rfl), (Nat.le_of_ble_eq_true rfl)⟩ (ci := 10) rfl rfl r.1.1 rfl rfl (Nat.le_of_ble_eq_true rfl) (c_ofLinkN r (by omega) (by unfold nSp; omega)) ?_
  rintro _ q2 ⟨rfl, eq2⟩
  subst q2
  show zG l w mX10_spanEnds 14 [(2, .long (jL (nA N (8 + 40 * a + 6)))), (0, .ref m), (1, .int (nI a))] [.long (jL (nA N (8 + 40 * a + 0)))] h _
  refine g_aload_n 1 dX10_spanEnds_14 rfl rfl ?_
  refine g_iload_n 2 dX10_spanEnds_15 rfl rfl ?_
  refine g_iconst (v := nI 3) dX10_spanEnds_16 (by decide) ?_
  refine g_invv (M' := mX10_ofLink) (As := [.int (nI a), .int (nI 3)]) (rest := [.long (jL (nA N (8 + 40 * a + 0)))]) dX10_spanEnds_17 ml_X10_69 okX10_ofLink imX10_ofLink seX10_ofLink ⟨(Nat.le_of_ble_eq_true rfl), (Nat.le_of_ble_eq_true rfl)⟩ (ci := 10) rfl rfl r.1.1 rfl rfl (Nat.le_of_ble_eq_true rfl) (c_ofLinkN r (by omega) (by unfold nSp; omega)) ?_
  rintro _ q3 ⟨rfl, eq3⟩
  subst q3
  show zG l w mX10_spanEnds 20 [(2, .long (jL (nA N (8 + 40 * a + 6)))), (0, .ref m), (1, .int (nI a))] [.long (jL (nA N (8 + 40 * a + 3))), .long (jL (nA N (8 + 40 * a + 0)))] h _
  refine g_lmul dX10_spanEnds_20 ?_
  rw [jL_mul]
  rw [eT]
  refine g_lstore (lv2 := [(4, .long (jL (spT N a))), (2, .long (jL (nA N (8 + 40 * a + 6)))), (0, .ref m), (1, .int (nI a))]) dX10_spanEnds_21 (by decide) rfl ?_
  refine g_ldc2J (z := 40) dX10_spanEnds_23 kl_X10_162 (by decide) ?_
  refine g_lload 0 dX10_spanEnds_26 rfl ?_
  refine g_lload_n 1 dX10_spanEnds_28 rfl rfl ?_
  refine g_lsub dX10_spanEnds_29 ?_
  rw [jL_sub]
  refine g_lmul dX10_spanEnds_30 ?_
  rw [jL_mul]
  refine g_ldc2J (z := 23) dX10_spanEnds_31 kl_X10_164 (by decide) ?_
  refine g_aload_n 2 dX10_spanEnds_34 rfl rfl ?_
  refine g_iload_n 3 dX10_spanEnds_35 rfl rfl ?_
  refine g_bipush (v := nI 7) dX10_spanEnds_36 (by decide) ?_
  refine g_invv (M' := mX10_ofLink) (As := [.int (nI a), .int (nI 7)]) (rest := [.long (jL 23), .long (jL (40 * ((spT N a) - (nA N (8 + 40 * a + 6)))))]) dX10_spanEnds_38 ml_X10_69 okX10_ofLink imX10_ofLink seX10_ofLink ⟨(Nat.le_of_ble_eq_true rfl), (Nat.le_of_ble_eq_true rfl)⟩ (ci := 10) rfl rfl r.1.1 rfl rfl (Nat.le_of_ble_eq_true rfl) (c_ofLinkN r (by omega) (by unfold nSp; omega)) ?_
  rintro _ q4 ⟨rfl, eq4⟩
  subst q4
  show zG l w mX10_spanEnds 41 [(4, .long (jL (spT N a))), (2, .long (jL (nA N (8 + 40 * a + 6)))), (0, .ref m), (1, .int (nI a))] [.long (jL (nA N (8 + 40 * a + 7))), .long (jL 23), .long (jL (40 * ((spT N a) - (nA N (8 + 40 * a + 6)))))] h _
  refine g_lmul dX10_spanEnds_41 ?_
  rw [jL_mul]
  refine g_lsub dX10_spanEnds_42 ?_
  rw [jL_sub]
  rw [show 40 * (spT N a - nA N (8 + 40 * a + 6)) - 23 * nA N (8 + 40 * a + 7) = spQ N a from rfl]
  have qb : -15000000 ≤ spQ N a ∧ spQ N a ≤ 15000000 := by unfold spQ; omega
  have mid : ∀ e : Int, e = (if spQ N a < 0 then -(spQ N a) else spQ N a) → zG l w mX10_spanEnds 66 [(6, .long (jL (spQ N a))), (4, .long (jL (spT N a))), (2, .long (jL (nA N (8 + 40 * a + 6)))), (0, .ref m), (1, .int (nI a))] [.long (jL e), .long (jL (10 * nA N (8 + 40 * a + 6))), .long (jL 0)] h (fun v h1 => v = none ∧ MoN h1 m (spanN N a) ∧ FrM m h h1) := by
    intro e he
    have eb : 0 ≤ e ∧ e ≤ 15000000 := by rw [he]; split <;> omega
    refine g_lsub dX10_spanEnds_66 ?_
    rw [jL_sub]
    refine g_invs (M' := mJ9_max_f86c9) (As := [.long (jL 0), .long (jL ((10 * nA N (8 + 40 * a + 6)) - e))]) (rest := []) dX10_spanEnds_67 ml_X10_87 okJ9_max_f86c9 stJ9_max_f86c9 ⟨(Nat.le_of_ble_eq_true rfl), (Nat.le_of_ble_eq_true rfl)⟩ rfl rfl (Nat.le_of_ble_eq_true rfl) (c_maxL (by omega) (by omega)) ?_
    rintro _ q5 ⟨rfl, eq5⟩
    subst q5
    show zG l w mX10_spanEnds 70 [(6, .long (jL (spQ N a))), (4, .long (jL (spT N a))), (2, .long (jL (nA N (8 + 40 * a + 6)))), (0, .ref m), (1, .int (nI a))] [.long (jL (max 0 (10 * nA N (8 + 40 * a + 6) - e)))] h _
    rw [show max 0 (10 * nA N (8 + 40 * a + 6) - e) = spS N a by rw [he]; rfl]
    have sb : 0 ≤ spS N a ∧ spS N a ≤ 11000 := by omega
    refine g_lstore (lv2 := [(8, .long (jL (spS N a))), (6, .long (jL (spQ N a))), (4, .long (jL (spT N a))), (2, .long (jL (nA N (8 + 40 * a + 6)))), (0, .ref m), (1, .int (nI a))]) dX10_spanEnds_70 (by decide) rfl ?_
    refine g_iconst (v := nI 0) dX10_spanEnds_72 (by decide) ?_
    refine g_istore (lv2 := [(10, .int (nI 0)), (8, .long (jL (spS N a))), (6, .long (jL (spQ N a))), (4, .long (jL (spT N a))), (2, .long (jL (nA N (8 + 40 * a + 6)))), (0, .ref m), (1, .int (nI a))]) dX10_spanEnds_73 (by decide) rfl ?_
    refine g_aload_n 5 dX10_spanEnds_75 rfl rfl ?_
    refine g_iload_n 6 dX10_spanEnds_76 rfl rfl ?_
    refine g_bipush (v := nI 8) dX10_spanEnds_77 (by decide) ?_
    refine g_invs (M' := mX10_link0) (As := [.int (nI a), .int (nI 8)]) (rest := [.ref m]) dX10_spanEnds_79 ml_X10_44 okX10_link0 stX10_link0 ⟨(Nat.le_of_ble_eq_true rfl), (Nat.le_of_ble_eq_true rfl)⟩ rfl rfl (Nat.le_of_ble_eq_true rfl) c_link0 ?_
    rintro _ q6 ⟨rfl, eq6⟩
    subst q6
    show zG l w mX10_spanEnds 82 [(10, .int (nI 0)), (8, .long (jL (spS N a))), (6, .long (jL (spQ N a))), (4, .long (jL (spT N a))), (2, .long (jL (nA N (8 + 40 * a + 6)))), (0, .ref m), (1, .int (nI a))] [.int (nI (8 + 40 * a + 8)), .ref m] h _
    refine g_lload 1 dX10_spanEnds_82 rfl ?_
    refine g_lconst (v := jL 0) dX10_spanEnds_84 (by decide) ?_
    refine g_lload 2 dX10_spanEnds_85 rfl ?_
    refine g_invs (M' := mJ9_max_f86c9) (As := [.long (jL 0), .long (jL (spQ N a))]) (rest := [.long (jL (spS N a)), .int (nI (8 + 40 * a + 8)), .ref m]) dX10_spanEnds_87 ml_X10_87 okJ9_max_f86c9 stJ9_max_f86c9 ⟨(Nat.le_of_ble_eq_true rfl), (Nat.le_of_ble_eq_true rfl)⟩ rfl rfl (Nat.le_of_ble_eq_true rfl) (c_maxL (by omega) (by omega)) ?_
    rintro _ q7 ⟨rfl, eq7⟩
    subst q7
    show zG l w mX10_spanEnds 90 [(10, .int (nI 0)), (8, .long (jL (spS N a))), (6, .long (jL (spQ N a))), (4, .long (jL (spT N a))), (2, .long (jL (nA N (8 + 40 * a + 6)))), (0, .ref m), (1, .int (nI a))] [.long (jL (max 0 (spQ N a))), .long (jL (spS N a)), .int (nI (8 + 40 * a + 8)), .ref m] h _
    refine g_ladd dX10_spanEnds_90 ?_
    rw [jL_add]
    refine g_invv (M' := mX10_puts) (As := [.int (nI (8 + 40 * a + 8)), .long (jL ((spS N a) + (max 0 (spQ N a))))]) (rest := []) dX10_spanEnds_91 ml_X10_40 okX10_puts imX10_puts seX10_puts ⟨(Nat.le_of_ble_eq_true rfl), (Nat.le_of_ble_eq_true rfl)⟩ (ci := 10) rfl rfl r.1.1 rfl rfl (Nat.le_of_ble_eq_true rfl) (c_putsN r (by omega) (by unfold nSp; omega)) ?_
    rintro _ y8 ⟨rfl, r8, f8⟩
    show zG l w mX10_spanEnds 94 [(10, .int (nI 0)), (8, .long (jL (spS N a))), (6, .long (jL (spQ N a))), (4, .long (jL (spT N a))), (2, .long (jL (nA N (8 + 40 * a + 6)))), (0, .ref m), (1, .int (nI a))] [] y8 _
    refine g_aload_n 5 dX10_spanEnds_94 rfl rfl ?_
    refine g_iload_n 6 dX10_spanEnds_95 rfl rfl ?_
    refine g_bipush (v := nI 9) dX10_spanEnds_96 (by decide) ?_
    refine g_invs (M' := mX10_link0) (As := [.int (nI a), .int (nI 9)]) (rest := [.ref m]) dX10_spanEnds_98 ml_X10_44 okX10_link0 stX10_link0 ⟨(Nat.le_of_ble_eq_true rfl), (Nat.le_of_ble_eq_true rfl)⟩ rfl rfl (Nat.le_of_ble_eq_true rfl) c_link0 ?_
    rintro _ q9 ⟨rfl, eq9⟩
    subst q9
    show zG l w mX10_spanEnds 101 [(10, .int (nI 0)), (8, .long (jL (spS N a))), (6, .long (jL (spQ N a))), (4, .long (jL (spT N a))), (2, .long (jL (nA N (8 + 40 * a + 6)))), (0, .ref m), (1, .int (nI a))] [.int (nI (8 + 40 * a + 9)), .ref m] y8 _
    refine g_lload 1 dX10_spanEnds_101 rfl ?_
    refine g_lconst (v := jL 0) dX10_spanEnds_103 (by decide) ?_
    refine g_lload 2 dX10_spanEnds_104 rfl ?_
    refine g_lneg dX10_spanEnds_106 ?_
    rw [jL_neg]
    refine g_invs (M' := mJ9_max_f86c9) (As := [.long (jL 0), .long (jL (-(spQ N a)))]) (rest := [.long (jL (spS N a)), .int (nI (8 + 40 * a + 9)), .ref m]) dX10_spanEnds_107 ml_X10_87 okJ9_max_f86c9 stJ9_max_f86c9 ⟨(Nat.le_of_ble_eq_true rfl), (Nat.le_of_ble_eq_true rfl)⟩ rfl rfl (Nat.le_of_ble_eq_true rfl) (c_maxL (by omega) (by omega)) ?_
    rintro _ q10 ⟨rfl, eq10⟩
    subst q10
    show zG l w mX10_spanEnds 110 [(10, .int (nI 0)), (8, .long (jL (spS N a))), (6, .long (jL (spQ N a))), (4, .long (jL (spT N a))), (2, .long (jL (nA N (8 + 40 * a + 6)))), (0, .ref m), (1, .int (nI a))] [.long (jL (max 0 (-(spQ N a)))), .long (jL (spS N a)), .int (nI (8 + 40 * a + 9)), .ref m] y8 _
    refine g_ladd dX10_spanEnds_110 ?_
    rw [jL_add]
    refine g_invv (M' := mX10_puts) (As := [.int (nI (8 + 40 * a + 9)), .long (jL ((spS N a) + (max 0 (-(spQ N a)))))]) (rest := []) dX10_spanEnds_111 ml_X10_40 okX10_puts imX10_puts seX10_puts ⟨(Nat.le_of_ble_eq_true rfl), (Nat.le_of_ble_eq_true rfl)⟩ (ci := 10) rfl rfl r8.1.1 rfl rfl (Nat.le_of_ble_eq_true rfl) (c_putsN r8 (by omega) (by unfold nSp; omega)) ?_
    rintro _ y11 ⟨rfl, r11, f11⟩
    show zG l w mX10_spanEnds 114 [(10, .int (nI 0)), (8, .long (jL (spS N a))), (6, .long (jL (spQ N a))), (4, .long (jL (spT N a))), (2, .long (jL (nA N (8 + 40 * a + 6)))), (0, .ref m), (1, .int (nI a))] [] y11 _
    refine g_aload_n 5 dX10_spanEnds_114 rfl rfl ?_
    refine g_iload_n 6 dX10_spanEnds_115 rfl rfl ?_
    refine g_bipush (v := nI 10) dX10_spanEnds_116 (by decide) ?_
    refine g_invs (M' := mX10_link0) (As := [.int (nI a), .int (nI 10)]) (rest := [.ref m]) dX10_spanEnds_118 ml_X10_44 okX10_link0 stX10_link0 ⟨(Nat.le_of_ble_eq_true rfl), (Nat.le_of_ble_eq_true rfl)⟩ rfl rfl (Nat.le_of_ble_eq_true rfl) c_link0 ?_
    rintro _ q12 ⟨rfl, eq12⟩
    subst q12
    show zG l w mX10_spanEnds 121 [(10, .int (nI 0)), (8, .long (jL (spS N a))), (6, .long (jL (spQ N a))), (4, .long (jL (spT N a))), (2, .long (jL (nA N (8 + 40 * a + 6)))), (0, .ref m), (1, .int (nI a))] [.int (nI (8 + 40 * a + 10)), .ref m] y11 _
    refine g_lconst (v := jL 1) dX10_spanEnds_121 (by decide) ?_
    refine g_aload_n 5 dX10_spanEnds_122 rfl rfl ?_
    refine g_iload_n 6 dX10_spanEnds_123 rfl rfl ?_
    refine g_bipush (v := nI 18) dX10_spanEnds_124 (by decide) ?_
    refine g_invv (M' := mX10_ofLink) (As := [.int (nI a), .int (nI 18)]) (rest := [.long (jL 1), .int (nI (8 + 40 * a + 10)), .ref m]) dX10_spanEnds_126 ml_X10_69 okX10_ofLink imX10_ofLink seX10_ofLink ⟨(Nat.le_of_ble_eq_true rfl), (Nat.le_of_ble_eq_true rfl)⟩ (ci := 10) rfl rfl r11.1.1 rfl rfl (Nat.le_of_ble_eq_true rfl) (c_ofLinkN r11 (by omega) (by unfold nSp; omega)) ?_
    rintro _ q13 ⟨rfl, eq13⟩
    subst q13
    show zG l w mX10_spanEnds 129 [(10, .int (nI 0)), (8, .long (jL (spS N a))), (6, .long (jL (spQ N a))), (4, .long (jL (spT N a))), (2, .long (jL (nA N (8 + 40 * a + 6)))), (0, .ref m), (1, .int (nI a))] [.long (jL (nA (uA (uA N (8 + 40 * a + 8) ((spS N a) + (max 0 (spQ N a)))) (8 + 40 * a + 9) ((spS N a) + (max 0 (-(spQ N a))))) (8 + 40 * a + 18))), .long (jL 1), .int (nI (8 + 40 * a + 10)), .ref m] y11 _
    rw [show nA (uA (uA N (8 + 40 * a + 8) ((spS N a) + (max 0 (spQ N a)))) (8 + 40 * a + 9) ((spS N a) + (max 0 (-(spQ N a))))) (8 + 40 * a + 18) = nA N (8 + 40 * a + 18) by rw [nA_ne (by omega), nA_ne (by omega)]]
    have b18 := hB (8 + 40 * a + 18) (by omega)
    refine g_invs (M' := mJ9_max_f86c9) (As := [.long (jL 1), .long (jL (nA N (8 + 40 * a + 18)))]) (rest := [.int (nI (8 + 40 * a + 10)), .ref m]) dX10_spanEnds_129 ml_X10_87 okJ9_max_f86c9 stJ9_max_f86c9 ⟨(Nat.le_of_ble_eq_true rfl), (Nat.le_of_ble_eq_true rfl)⟩ rfl rfl (Nat.le_of_ble_eq_true rfl) (c_maxL (by omega) (by omega)) ?_
    rintro _ q14 ⟨rfl, eq14⟩
    subst q14
    show zG l w mX10_spanEnds 132 [(10, .int (nI 0)), (8, .long (jL (spS N a))), (6, .long (jL (spQ N a))), (4, .long (jL (spT N a))), (2, .long (jL (nA N (8 + 40 * a + 6)))), (0, .ref m), (1, .int (nI a))] [.long (jL (max 1 (nA N (8 + 40 * a + 18)))), .int (nI (8 + 40 * a + 10)), .ref m] y11 _
    refine g_invv (M' := mX10_puts) (As := [.int (nI (8 + 40 * a + 10)), .long (jL (max 1 (nA N (8 + 40 * a + 18))))]) (rest := []) dX10_spanEnds_132 ml_X10_40 okX10_puts imX10_puts seX10_puts ⟨(Nat.le_of_ble_eq_true rfl), (Nat.le_of_ble_eq_true rfl)⟩ (ci := 10) rfl rfl r11.1.1 rfl rfl (Nat.le_of_ble_eq_true rfl) (c_putsN r11 (by omega) (by unfold nSp; omega)) ?_
    rintro _ y15 ⟨rfl, r15, f15⟩
    show zG l w mX10_spanEnds 135 [(10, .int (nI 0)), (8, .long (jL (spS N a))), (6, .long (jL (spQ N a))), (4, .long (jL (spT N a))), (2, .long (jL (nA N (8 + 40 * a + 6)))), (0, .ref m), (1, .int (nI a))] [] y15 _
    refine g_aload_n 5 dX10_spanEnds_135 rfl rfl ?_
    refine g_iload_n 6 dX10_spanEnds_136 rfl rfl ?_
    refine g_bipush (v := nI 11) dX10_spanEnds_137 (by decide) ?_
    refine g_invs (M' := mX10_link0) (As := [.int (nI a), .int (nI 11)]) (rest := [.ref m]) dX10_spanEnds_139 ml_X10_44 okX10_link0 stX10_link0 ⟨(Nat.le_of_ble_eq_true rfl), (Nat.le_of_ble_eq_true rfl)⟩ rfl rfl (Nat.le_of_ble_eq_true rfl) c_link0 ?_
    rintro _ q16 ⟨rfl, eq16⟩
    subst q16
    show zG l w mX10_spanEnds 142 [(10, .int (nI 0)), (8, .long (jL (spS N a))), (6, .long (jL (spQ N a))), (4, .long (jL (spT N a))), (2, .long (jL (nA N (8 + 40 * a + 6)))), (0, .ref m), (1, .int (nI a))] [.int (nI (8 + 40 * a + 11)), .ref m] y15 _
    refine g_lconst (v := jL 1) dX10_spanEnds_142 (by decide) ?_
    refine g_lload_n 4 dX10_spanEnds_143 rfl rfl ?_
    refine g_invs (M' := mJ9_max_f86c9) (As := [.long (jL 1), .long (jL (nA N (8 + 40 * a + 6)))]) (rest := [.int (nI (8 + 40 * a + 11)), .ref m]) dX10_spanEnds_144 ml_X10_87 okJ9_max_f86c9 stJ9_max_f86c9 ⟨(Nat.le_of_ble_eq_true rfl), (Nat.le_of_ble_eq_true rfl)⟩ rfl rfl (Nat.le_of_ble_eq_true rfl) (c_maxL (by omega) (by omega)) ?_
    rintro _ q17 ⟨rfl, eq17⟩
    subst q17
    show zG l w mX10_spanEnds 147 [(10, .int (nI 0)), (8, .long (jL (spS N a))), (6, .long (jL (spQ N a))), (4, .long (jL (spT N a))), (2, .long (jL (nA N (8 + 40 * a + 6)))), (0, .ref m), (1, .int (nI a))] [.long (jL (max 1 (nA N (8 + 40 * a + 6)))), .int (nI (8 + 40 * a + 11)), .ref m] y15 _
    refine g_invv (M' := mX10_puts) (As := [.int (nI (8 + 40 * a + 11)), .long (jL (max 1 (nA N (8 + 40 * a + 6))))]) (rest := []) dX10_spanEnds_147 ml_X10_40 okX10_puts imX10_puts seX10_puts ⟨(Nat.le_of_ble_eq_true rfl), (Nat.le_of_ble_eq_true rfl)⟩ (ci := 10) rfl rfl r15.1.1 rfl rfl (Nat.le_of_ble_eq_true rfl) (c_putsN r15 (by omega) (by unfold nSp; omega)) ?_
    rintro _ y18 ⟨rfl, r18, f18⟩
    show zG l w mX10_spanEnds 150 [(10, .int (nI 0)), (8, .long (jL (spS N a))), (6, .long (jL (spQ N a))), (4, .long (jL (spT N a))), (2, .long (jL (nA N (8 + 40 * a + 6)))), (0, .ref m), (1, .int (nI a))] [] y18 _
    refine g_aload_n 5 dX10_spanEnds_150 rfl rfl ?_
    refine g_iload_n 6 dX10_spanEnds_151 rfl rfl ?_
    refine g_bipush (v := nI 12) dX10_spanEnds_152 (by decide) ?_
    refine g_invs (M' := mX10_link0) (As := [.int (nI a), .int (nI 12)]) (rest := [.ref m]) dX10_spanEnds_154 ml_X10_44 okX10_link0 stX10_link0 ⟨(Nat.le_of_ble_eq_true rfl), (Nat.le_of_ble_eq_true rfl)⟩ rfl rfl (Nat.le_of_ble_eq_true rfl) c_link0 ?_
    rintro _ q19 ⟨rfl, eq19⟩
    subst q19
    show zG l w mX10_spanEnds 157 [(10, .int (nI 0)), (8, .long (jL (spS N a))), (6, .long (jL (spQ N a))), (4, .long (jL (spT N a))), (2, .long (jL (nA N (8 + 40 * a + 6)))), (0, .ref m), (1, .int (nI a))] [.int (nI (8 + 40 * a + 12)), .ref m] y18 _
    refine g_lconst (v := jL 0) dX10_spanEnds_157 (by decide) ?_
    refine g_invv (M' := mX10_puts) (As := [.int (nI (8 + 40 * a + 12)), .long (jL 0)]) (rest := []) dX10_spanEnds_158 ml_X10_40 okX10_puts imX10_puts seX10_puts ⟨(Nat.le_of_ble_eq_true rfl), (Nat.le_of_ble_eq_true rfl)⟩ (ci := 10) rfl rfl r18.1.1 rfl rfl (Nat.le_of_ble_eq_true rfl) (c_putsN r18 (by omega) (by unfold nSp; omega)) ?_
    rintro _ y20 ⟨rfl, r20, f20⟩
    show zG l w mX10_spanEnds 161 [(10, .int (nI 0)), (8, .long (jL (spS N a))), (6, .long (jL (spQ N a))), (4, .long (jL (spT N a))), (2, .long (jL (nA N (8 + 40 * a + 6)))), (0, .ref m), (1, .int (nI a))] [] y20 _
    refine g_aload_n 5 dX10_spanEnds_161 rfl rfl ?_
    refine g_iload_n 6 dX10_spanEnds_162 rfl rfl ?_
    refine g_bipush (v := nI 13) dX10_spanEnds_163 (by decide) ?_
    refine g_invs (M' := mX10_link0) (As := [.int (nI a), .int (nI 13)]) (rest := [.ref m]) dX10_spanEnds_165 ml_X10_44 okX10_link0 stX10_link0 ⟨(Nat.le_of_ble_eq_true rfl), (Nat.le_of_ble_eq_true rfl)⟩ rfl rfl (Nat.le_of_ble_eq_true rfl) c_link0 ?_
    rintro _ q21 ⟨rfl, eq21⟩
    subst q21
    show zG l w mX10_spanEnds 168 [(10, .int (nI 0)), (8, .long (jL (spS N a))), (6, .long (jL (spQ N a))), (4, .long (jL (spT N a))), (2, .long (jL (nA N (8 + 40 * a + 6)))), (0, .ref m), (1, .int (nI a))] [.int (nI (8 + 40 * a + 13)), .ref m] y20 _
    refine g_lconst (v := jL 0) dX10_spanEnds_168 (by decide) ?_
    refine g_invv (M' := mX10_puts) (As := [.int (nI (8 + 40 * a + 13)), .long (jL 0)]) (rest := []) dX10_spanEnds_169 ml_X10_40 okX10_puts imX10_puts seX10_puts ⟨(Nat.le_of_ble_eq_true rfl), (Nat.le_of_ble_eq_true rfl)⟩ (ci := 10) rfl rfl r20.1.1 rfl rfl (Nat.le_of_ble_eq_true rfl) (c_putsN r20 (by omega) (by unfold nSp; omega)) ?_
    rintro _ y22 ⟨rfl, r22, f22⟩
    show zG l w mX10_spanEnds 172 [(10, .int (nI 0)), (8, .long (jL (spS N a))), (6, .long (jL (spQ N a))), (4, .long (jL (spT N a))), (2, .long (jL (nA N (8 + 40 * a + 6)))), (0, .ref m), (1, .int (nI a))] [] y22 _
    refine g_iconst (v := nI 0) dX10_spanEnds_172 (by decide) ?_
    refine g_istore (lv2 := [(11, .int (nI 0)), (10, .int (nI 0)), (8, .long (jL (spS N a))), (6, .long (jL (spQ N a))), (4, .long (jL (spT N a))), (2, .long (jL (nA N (8 + 40 * a + 6)))), (0, .ref m), (1, .int (nI a))]) dX10_spanEnds_173 (by decide) rfl ?_
    refine zG.sub [0, 1, 2, 3, 4, 5, 6, 7] rfl (spn_loop hI hW ha (nA N 1).toNat 0 (by omega) y22 (cfN N a 0) rfl r22 ((((((FrM.rf.tr f8).tr f11).tr f15).tr f18).tr f20).tr f22))
  refine g_lstore (lv2 := [(6, .long (jL (spQ N a))), (4, .long (jL (spT N a))), (2, .long (jL (nA N (8 + 40 * a + 6)))), (0, .ref m), (1, .int (nI a))]) dX10_spanEnds_43 (by decide) rfl ?_
  refine g_lconst (v := jL 0) dX10_spanEnds_45 (by decide) ?_
  refine g_ldc2J (z := 10) dX10_spanEnds_46 kl_X10_166 (by decide) ?_
  refine g_lload_n 2 dX10_spanEnds_49 rfl rfl ?_
  refine g_lmul dX10_spanEnds_50 ?_
  rw [jL_mul]
  refine g_lload 0 dX10_spanEnds_51 rfl ?_
  refine g_lconst (v := jL 0) dX10_spanEnds_53 (by decide) ?_
  refine g_lif_ge (a := (spQ N a)) (b := 0) (tgt := 64) dX10_spanEnds_54 rfl dX10_spanEnds_55 (by decide) (by omega) (by omega) (fun d => ?_) (fun d => ?_)
  · refine g_lload 0 dX10_spanEnds_64 rfl ?_
    exact mid _ (by rw [if_neg (by omega)])
  · refine g_lload 0 dX10_spanEnds_58 rfl ?_
    refine g_lneg dX10_spanEnds_60 ?_
    rw [jL_neg]
    refine g_goto (tgt := 66) dX10_spanEnds_61 (by decide) ?_
    exact mid _ (by rw [if_pos (by omega)])
end M14
