section LAWc
variable {p : Program} {l : Launch} {e : Env} {s : State} {m : MethodId} {below : List Frame} {meth : Method} {c : Code} {w : zW} {b L : Nat} {xs : Nat → Int32} {h : zH} {H : Heap} {ls : Array Slot} {locs : List Loc} {x T0 k i x0 t0 : Nat}
set_option maxHeartbeats 1000000 in
theorem lw_case_0 (C : LawC p w s m meth c b L xs) (hL : L ≤ 3072) (hi : i + 6 ≤ L) (hk : zk h x = 9) (S : St l w x T0 k h mX9_status mX10_status []) (A : zAt w mLw s h H [(3, .int (nI i)), (0, .ref b), (1, .ref x), (2, .ref (x + 333))] ls locs x0 t0) (rm : ∀ h2, RLa x T0 h2 (k + 1) → zx h2 ≤ x0 + 600000 ∧ zt h2 ≤ t0 + 7302250)
    (nx : ∀ h2 H2 locs2, RLa x T0 h2 (k + 1) → zAt w mLw s h2 H2 [(3, .int (nI i)), (0, .ref b), (1, .ref x), (2, .ref (x + 333))] ls locs2 x0 t0 → W p l e room_1 s m #[Value.ref b] below meth c H2 locs2 (zx h2 - x0) (zt h2 - t0) (lw_Z below #[Value.ref b] s) (F0 m 1195 ls [])) : W p l e room_1 s m #[Value.ref b] below meth c H locs (zx h - x0) (zt h - t0) (lw_Z below #[Value.ref b] s) (F0 m 180 ls []) := by
  obtain ⟨⟨hx, hb, -, -, -, -⟩, ⟨hX, hbl⟩, hw, -⟩ := id C
  have hbA : ¬ (fun q : Nat => s.heap.size ≤ q) b := Nat.not_le.mpr hbl
  have hS := lw_S hw A
  have hl := A.2.2.2.1
  obtain ⟨a, h1, h2, c1, c2, km, R2⟩ := S
  have rm2 := rm h2 R2
  have d1 := c1.1
  have d2 := c1.2.1
  have d3 := c2.1
  have d4 := c2.2.1
  refine lv_aload_n hx hb dL_law_180 rfl (lv_at hl 2 rfl) ?_
  refine lw_invv (M' := mX9_status) (As := []) (rest := []) C dL_law_181 ml_L_13 okX9_status imX9_status seX9_status ⟨(Nat.le_of_ble_eq_true rfl), (Nat.le_of_ble_eq_true rfl)⟩ (ci := 9) rfl rfl hk rfl rfl (Nat.le_of_ble_eq_true rfl) c1 (by omega) (by omega) A (fun H1 locs1 A1 => ?_)
  have hS1 := lw_S C.2.2.1 A1
  refine lv_aload_n hx hb dL_law_184 rfl (lv_at hl 3 rfl) ?_
  refine lw_invv (M' := mX10_status) (As := []) (rest := [.int a]) C dL_law_185 ml_L_17 okX10_status imX10_status seX10_status ⟨(Nat.le_of_ble_eq_true rfl), (Nat.le_of_ble_eq_true rfl)⟩ (ci := 10) rfl rfl km rfl rfl (Nat.le_of_ble_eq_true rfl) c2 (by omega) (by omega) A1 (fun H2 locs2 A2 => ?_)
  have hS2 := lw_S C.2.2.1 A2
  exact lv_icmp_eq (tgt := 1195) hx hb dL_law_188 (by decide) (fun _ => nx h2 H2 locs2 R2 A2) (fun q => absurd rfl q)
set_option maxHeartbeats 1000000 in
theorem lw_case_1 (C : LawC p w s m meth c b L xs) (hL : L ≤ 3072) (hi : i + 6 ≤ L) (hk : zk h x = 9) (S : St l w x T0 k h mX9_feed mX10_feed [.int (xs (nI (i + 1)).toNatClampNeg), .int (xs (nI (i + 2)).toNatClampNeg), .int (xs (nI (i + 3)).toNatClampNeg), .int (xs (nI (i + 4)).toNatClampNeg), .int (xs (nI (i + 5)).toNatClampNeg)]) (A : zAt w mLw s h H [(3, .int (nI i)), (0, .ref b), (1, .ref x), (2, .ref (x + 333))] ls locs x0 t0) (rm : ∀ h2, RLa x T0 h2 (k + 1) → zx h2 ≤ x0 + 600000 ∧ zt h2 ≤ t0 + 7302250)
    (nx : ∀ h2 H2 locs2, RLa x T0 h2 (k + 1) → zAt w mLw s h2 H2 [(3, .int (nI i)), (0, .ref b), (1, .ref x), (2, .ref (x + 333))] ls locs2 x0 t0 → W p l e room_1 s m #[Value.ref b] below meth c H2 locs2 (zx h2 - x0) (zt h2 - t0) (lw_Z below #[Value.ref b] s) (F0 m 1195 ls [])) : W p l e room_1 s m #[Value.ref b] below meth c H locs (zx h - x0) (zt h - t0) (lw_Z below #[Value.ref b] s) (F0 m 193 ls []) := by
  obtain ⟨⟨hx, hb, -, -, -, -⟩, ⟨hX, hbl⟩, hw, -⟩ := id C
  have hbA : ¬ (fun q : Nat => s.heap.size ≤ q) b := Nat.not_le.mpr hbl
  have hS := lw_S hw A
  have hl := A.2.2.2.1
  obtain ⟨a, h1, h2, c1, c2, km, R2⟩ := S
  have rm2 := rm h2 R2
  have d1 := c1.1
  have d2 := c1.2.1
  have d3 := c2.1
  have d4 := c2.2.1
  refine lv_aload_n hx hb dL_law_193 rfl (lv_at hl 2 rfl) ?_
  refine lv_aload_n hx hb dL_law_194 rfl (lv_at hl 1 rfl) ?_
  refine lv_iload_n hx hb dL_law_195 rfl (lv_at hl 0 rfl) ?_
  refine lv_iconst (v := nI 1) hx hb dL_law_196 (by decide) ?_
  refine lv_iadd hx hb dL_law_197 ?_
  rw [nI_add i 1]
  refine va_sld hx hb hX hbl hbA hS (vp_in_nI (by omega) (by omega)) dL_law_198 ?_
  refine lv_aload_n hx hb dL_law_199 rfl (lv_at hl 1 rfl) ?_
  refine lv_iload_n hx hb dL_law_200 rfl (lv_at hl 0 rfl) ?_
  refine lv_iconst (v := nI 2) hx hb dL_law_201 (by decide) ?_
  refine lv_iadd hx hb dL_law_202 ?_
  rw [nI_add i 2]
  refine va_sld hx hb hX hbl hbA hS (vp_in_nI (by omega) (by omega)) dL_law_203 ?_
  refine lv_aload_n hx hb dL_law_204 rfl (lv_at hl 1 rfl) ?_
  refine lv_iload_n hx hb dL_law_205 rfl (lv_at hl 0 rfl) ?_
  refine lv_iconst (v := nI 3) hx hb dL_law_206 (by decide) ?_
  refine lv_iadd hx hb dL_law_207 ?_
  rw [nI_add i 3]
  refine va_sld hx hb hX hbl hbA hS (vp_in_nI (by omega) (by omega)) dL_law_208 ?_
  refine lv_aload_n hx hb dL_law_209 rfl (lv_at hl 1 rfl) ?_
  refine lv_iload_n hx hb dL_law_210 rfl (lv_at hl 0 rfl) ?_
  refine lv_iconst (v := nI 4) hx hb dL_law_211 (by decide) ?_
  refine lv_iadd hx hb dL_law_212 ?_
  rw [nI_add i 4]
  refine va_sld hx hb hX hbl hbA hS (vp_in_nI (by omega) (by omega)) dL_law_213 ?_
  refine lv_aload_n hx hb dL_law_214 rfl (lv_at hl 1 rfl) ?_
  refine lv_iload_n hx hb dL_law_215 rfl (lv_at hl 0 rfl) ?_
  refine lv_iconst (v := nI 5) hx hb dL_law_216 (by decide) ?_
  refine lv_iadd hx hb dL_law_217 ?_
  rw [nI_add i 5]
  refine va_sld hx hb hX hbl hbA hS (vp_in_nI (by omega) (by omega)) dL_law_218 ?_
  refine lw_invv (M' := mX9_feed) (As := [.int (xs (nI (i + 1)).toNatClampNeg), .int (xs (nI (i + 2)).toNatClampNeg), .int (xs (nI (i + 3)).toNatClampNeg), .int (xs (nI (i + 4)).toNatClampNeg), .int (xs (nI (i + 5)).toNatClampNeg)]) (rest := []) C dL_law_219 ml_L_18 okX9_feed imX9_feed seX9_feed ⟨(Nat.le_of_ble_eq_true rfl), (Nat.le_of_ble_eq_true rfl)⟩ (ci := 9) rfl rfl hk rfl rfl (Nat.le_of_ble_eq_true rfl) c1 (by omega) (by omega) A (fun H1 locs1 A1 => ?_)
  have hS1 := lw_S C.2.2.1 A1
  refine lv_aload_n hx hb dL_law_222 rfl (lv_at hl 3 rfl) ?_
  refine lv_aload_n hx hb dL_law_223 rfl (lv_at hl 1 rfl) ?_
  refine lv_iload_n hx hb dL_law_224 rfl (lv_at hl 0 rfl) ?_
  refine lv_iconst (v := nI 1) hx hb dL_law_225 (by decide) ?_
  refine lv_iadd hx hb dL_law_226 ?_
  rw [nI_add i 1]
  refine va_sld hx hb hX hbl hbA hS1 (vp_in_nI (by omega) (by omega)) dL_law_227 ?_
  refine lv_aload_n hx hb dL_law_228 rfl (lv_at hl 1 rfl) ?_
  refine lv_iload_n hx hb dL_law_229 rfl (lv_at hl 0 rfl) ?_
  refine lv_iconst (v := nI 2) hx hb dL_law_230 (by decide) ?_
  refine lv_iadd hx hb dL_law_231 ?_
  rw [nI_add i 2]
  refine va_sld hx hb hX hbl hbA hS1 (vp_in_nI (by omega) (by omega)) dL_law_232 ?_
  refine lv_aload_n hx hb dL_law_233 rfl (lv_at hl 1 rfl) ?_
  refine lv_iload_n hx hb dL_law_234 rfl (lv_at hl 0 rfl) ?_
  refine lv_iconst (v := nI 3) hx hb dL_law_235 (by decide) ?_
  refine lv_iadd hx hb dL_law_236 ?_
  rw [nI_add i 3]
  refine va_sld hx hb hX hbl hbA hS1 (vp_in_nI (by omega) (by omega)) dL_law_237 ?_
  refine lv_aload_n hx hb dL_law_238 rfl (lv_at hl 1 rfl) ?_
  refine lv_iload_n hx hb dL_law_239 rfl (lv_at hl 0 rfl) ?_
  refine lv_iconst (v := nI 4) hx hb dL_law_240 (by decide) ?_
  refine lv_iadd hx hb dL_law_241 ?_
  rw [nI_add i 4]
  refine va_sld hx hb hX hbl hbA hS1 (vp_in_nI (by omega) (by omega)) dL_law_242 ?_
  refine lv_aload_n hx hb dL_law_243 rfl (lv_at hl 1 rfl) ?_
  refine lv_iload_n hx hb dL_law_244 rfl (lv_at hl 0 rfl) ?_
  refine lv_iconst (v := nI 5) hx hb dL_law_245 (by decide) ?_
  refine lv_iadd hx hb dL_law_246 ?_
  rw [nI_add i 5]
  refine va_sld hx hb hX hbl hbA hS1 (vp_in_nI (by omega) (by omega)) dL_law_247 ?_
  refine lw_invv (M' := mX10_feed) (As := [.int (xs (nI (i + 1)).toNatClampNeg), .int (xs (nI (i + 2)).toNatClampNeg), .int (xs (nI (i + 3)).toNatClampNeg), .int (xs (nI (i + 4)).toNatClampNeg), .int (xs (nI (i + 5)).toNatClampNeg)]) (rest := [.int a]) C dL_law_248 ml_L_22 okX10_feed imX10_feed seX10_feed ⟨(Nat.le_of_ble_eq_true rfl), (Nat.le_of_ble_eq_true rfl)⟩ (ci := 10) rfl rfl km rfl rfl (Nat.le_of_ble_eq_true rfl) c2 (by omega) (by omega) A1 (fun H2 locs2 A2 => ?_)
  have hS2 := lw_S C.2.2.1 A2
  exact lv_icmp_eq (tgt := 1195) hx hb dL_law_251 (by decide) (fun _ => nx h2 H2 locs2 R2 A2) (fun q => absurd rfl q)
set_option maxHeartbeats 1000000 in
theorem lw_case_2 (C : LawC p w s m meth c b L xs) (hL : L ≤ 3072) (hi : i + 6 ≤ L) (hk : zk h x = 9) (S : St l w x T0 k h mX9_load mX10_load [.int (xs (nI (i + 1)).toNatClampNeg)]) (A : zAt w mLw s h H [(3, .int (nI i)), (0, .ref b), (1, .ref x), (2, .ref (x + 333))] ls locs x0 t0) (rm : ∀ h2, RLa x T0 h2 (k + 1) → zx h2 ≤ x0 + 600000 ∧ zt h2 ≤ t0 + 7302250)
    (nx : ∀ h2 H2 locs2, RLa x T0 h2 (k + 1) → zAt w mLw s h2 H2 [(3, .int (nI i)), (0, .ref b), (1, .ref x), (2, .ref (x + 333))] ls locs2 x0 t0 → W p l e room_1 s m #[Value.ref b] below meth c H2 locs2 (zx h2 - x0) (zt h2 - t0) (lw_Z below #[Value.ref b] s) (F0 m 1195 ls [])) : W p l e room_1 s m #[Value.ref b] below meth c H locs (zx h - x0) (zt h - t0) (lw_Z below #[Value.ref b] s) (F0 m 256 ls []) := by
  obtain ⟨⟨hx, hb, -, -, -, -⟩, ⟨hX, hbl⟩, hw, -⟩ := id C
  have hbA : ¬ (fun q : Nat => s.heap.size ≤ q) b := Nat.not_le.mpr hbl
  have hS := lw_S hw A
  have hl := A.2.2.2.1
  obtain ⟨a, h1, h2, c1, c2, km, R2⟩ := S
  have rm2 := rm h2 R2
  have d1 := c1.1
  have d2 := c1.2.1
  have d3 := c2.1
  have d4 := c2.2.1
  refine lv_aload_n hx hb dL_law_256 rfl (lv_at hl 2 rfl) ?_
  refine lv_aload_n hx hb dL_law_257 rfl (lv_at hl 1 rfl) ?_
  refine lv_iload_n hx hb dL_law_258 rfl (lv_at hl 0 rfl) ?_
  refine lv_iconst (v := nI 1) hx hb dL_law_259 (by decide) ?_
  refine lv_iadd hx hb dL_law_260 ?_
  rw [nI_add i 1]
  refine va_sld hx hb hX hbl hbA hS (vp_in_nI (by omega) (by omega)) dL_law_261 ?_
  refine lw_invv (M' := mX9_load) (As := [.int (xs (nI (i + 1)).toNatClampNeg)]) (rest := []) C dL_law_262 ml_L_23 okX9_load imX9_load seX9_load ⟨(Nat.le_of_ble_eq_true rfl), (Nat.le_of_ble_eq_true rfl)⟩ (ci := 9) rfl rfl hk rfl rfl (Nat.le_of_ble_eq_true rfl) c1 (by omega) (by omega) A (fun H1 locs1 A1 => ?_)
  have hS1 := lw_S C.2.2.1 A1
  refine lv_aload_n hx hb dL_law_265 rfl (lv_at hl 3 rfl) ?_
  refine lv_aload_n hx hb dL_law_266 rfl (lv_at hl 1 rfl) ?_
  refine lv_iload_n hx hb dL_law_267 rfl (lv_at hl 0 rfl) ?_
  refine lv_iconst (v := nI 1) hx hb dL_law_268 (by decide) ?_
  refine lv_iadd hx hb dL_law_269 ?_
  rw [nI_add i 1]
  refine va_sld hx hb hX hbl hbA hS1 (vp_in_nI (by omega) (by omega)) dL_law_270 ?_
  refine lw_invv (M' := mX10_load) (As := [.int (xs (nI (i + 1)).toNatClampNeg)]) (rest := [.int a]) C dL_law_271 ml_L_27 okX10_load imX10_load seX10_load ⟨(Nat.le_of_ble_eq_true rfl), (Nat.le_of_ble_eq_true rfl)⟩ (ci := 10) rfl rfl km rfl rfl (Nat.le_of_ble_eq_true rfl) c2 (by omega) (by omega) A1 (fun H2 locs2 A2 => ?_)
  have hS2 := lw_S C.2.2.1 A2
  exact lv_icmp_eq (tgt := 1195) hx hb dL_law_274 (by decide) (fun _ => nx h2 H2 locs2 R2 A2) (fun q => absurd rfl q)
set_option maxHeartbeats 1000000 in
theorem lw_case_3 (C : LawC p w s m meth c b L xs) (hL : L ≤ 3072) (hi : i + 6 ≤ L) (hk : zk h x = 9) (S : St l w x T0 k h mX9_fault mX10_fault [.int (xs (nI (i + 1)).toNatClampNeg)]) (A : zAt w mLw s h H [(3, .int (nI i)), (0, .ref b), (1, .ref x), (2, .ref (x + 333))] ls locs x0 t0) (rm : ∀ h2, RLa x T0 h2 (k + 1) → zx h2 ≤ x0 + 600000 ∧ zt h2 ≤ t0 + 7302250)
    (nx : ∀ h2 H2 locs2, RLa x T0 h2 (k + 1) → zAt w mLw s h2 H2 [(3, .int (nI i)), (0, .ref b), (1, .ref x), (2, .ref (x + 333))] ls locs2 x0 t0 → W p l e room_1 s m #[Value.ref b] below meth c H2 locs2 (zx h2 - x0) (zt h2 - t0) (lw_Z below #[Value.ref b] s) (F0 m 1195 ls [])) : W p l e room_1 s m #[Value.ref b] below meth c H locs (zx h - x0) (zt h - t0) (lw_Z below #[Value.ref b] s) (F0 m 279 ls []) := by
  obtain ⟨⟨hx, hb, -, -, -, -⟩, ⟨hX, hbl⟩, hw, -⟩ := id C
  have hbA : ¬ (fun q : Nat => s.heap.size ≤ q) b := Nat.not_le.mpr hbl
  have hS := lw_S hw A
  have hl := A.2.2.2.1
  obtain ⟨a, h1, h2, c1, c2, km, R2⟩ := S
  have rm2 := rm h2 R2
  have d1 := c1.1
  have d2 := c1.2.1
  have d3 := c2.1
  have d4 := c2.2.1
  refine lv_aload_n hx hb dL_law_279 rfl (lv_at hl 2 rfl) ?_
  refine lv_aload_n hx hb dL_law_280 rfl (lv_at hl 1 rfl) ?_
  refine lv_iload_n hx hb dL_law_281 rfl (lv_at hl 0 rfl) ?_
  refine lv_iconst (v := nI 1) hx hb dL_law_282 (by decide) ?_
  refine lv_iadd hx hb dL_law_283 ?_
  rw [nI_add i 1]
  refine va_sld hx hb hX hbl hbA hS (vp_in_nI (by omega) (by omega)) dL_law_284 ?_
  refine lw_invv (M' := mX9_fault) (As := [.int (xs (nI (i + 1)).toNatClampNeg)]) (rest := []) C dL_law_285 ml_L_28 okX9_fault imX9_fault seX9_fault ⟨(Nat.le_of_ble_eq_true rfl), (Nat.le_of_ble_eq_true rfl)⟩ (ci := 9) rfl rfl hk rfl rfl (Nat.le_of_ble_eq_true rfl) c1 (by omega) (by omega) A (fun H1 locs1 A1 => ?_)
  have hS1 := lw_S C.2.2.1 A1
  refine lv_aload_n hx hb dL_law_288 rfl (lv_at hl 3 rfl) ?_
  refine lv_aload_n hx hb dL_law_289 rfl (lv_at hl 1 rfl) ?_
  refine lv_iload_n hx hb dL_law_290 rfl (lv_at hl 0 rfl) ?_
  refine lv_iconst (v := nI 1) hx hb dL_law_291 (by decide) ?_
  refine lv_iadd hx hb dL_law_292 ?_
  rw [nI_add i 1]
  refine va_sld hx hb hX hbl hbA hS1 (vp_in_nI (by omega) (by omega)) dL_law_293 ?_
  refine lw_invv (M' := mX10_fault) (As := [.int (xs (nI (i + 1)).toNatClampNeg)]) (rest := [.int a]) C dL_law_294 ml_L_31 okX10_fault imX10_fault seX10_fault ⟨(Nat.le_of_ble_eq_true rfl), (Nat.le_of_ble_eq_true rfl)⟩ (ci := 10) rfl rfl km rfl rfl (Nat.le_of_ble_eq_true rfl) c2 (by omega) (by omega) A1 (fun H2 locs2 A2 => ?_)
  have hS2 := lw_S C.2.2.1 A2
  exact lv_icmp_eq (tgt := 1195) hx hb dL_law_297 (by decide) (fun _ => nx h2 H2 locs2 R2 A2) (fun q => absurd rfl q)
set_option maxHeartbeats 1000000 in
theorem lw_case_4 (C : LawC p w s m meth c b L xs) (hL : L ≤ 3072) (hi : i + 6 ≤ L) (hk : zk h x = 9) (S : St l w x T0 k h mX9_many mX10_many [.int (xs (nI (i + 1)).toNatClampNeg)]) (A : zAt w mLw s h H [(3, .int (nI i)), (0, .ref b), (1, .ref x), (2, .ref (x + 333))] ls locs x0 t0) (rm : ∀ h2, RLa x T0 h2 (k + 1) → zx h2 ≤ x0 + 600000 ∧ zt h2 ≤ t0 + 7302250)
    (nx : ∀ h2 H2 locs2, RLa x T0 h2 (k + 1) → zAt w mLw s h2 H2 [(3, .int (nI i)), (0, .ref b), (1, .ref x), (2, .ref (x + 333))] ls locs2 x0 t0 → W p l e room_1 s m #[Value.ref b] below meth c H2 locs2 (zx h2 - x0) (zt h2 - t0) (lw_Z below #[Value.ref b] s) (F0 m 1195 ls [])) : W p l e room_1 s m #[Value.ref b] below meth c H locs (zx h - x0) (zt h - t0) (lw_Z below #[Value.ref b] s) (F0 m 302 ls []) := by
  obtain ⟨⟨hx, hb, -, -, -, -⟩, ⟨hX, hbl⟩, hw, -⟩ := id C
  have hbA : ¬ (fun q : Nat => s.heap.size ≤ q) b := Nat.not_le.mpr hbl
  have hS := lw_S hw A
  have hl := A.2.2.2.1
  obtain ⟨a, h1, h2, c1, c2, km, R2⟩ := S
  have rm2 := rm h2 R2
  have d1 := c1.1
  have d2 := c1.2.1
  have d3 := c2.1
  have d4 := c2.2.1
  refine lv_aload_n hx hb dL_law_302 rfl (lv_at hl 2 rfl) ?_
  refine lv_aload_n hx hb dL_law_303 rfl (lv_at hl 1 rfl) ?_
  refine lv_iload_n hx hb dL_law_304 rfl (lv_at hl 0 rfl) ?_
  refine lv_iconst (v := nI 1) hx hb dL_law_305 (by decide) ?_
  refine lv_iadd hx hb dL_law_306 ?_
  rw [nI_add i 1]
  refine va_sld hx hb hX hbl hbA hS (vp_in_nI (by omega) (by omega)) dL_law_307 ?_
  refine lw_invv (M' := mX9_many) (As := [.int (xs (nI (i + 1)).toNatClampNeg)]) (rest := []) C dL_law_308 ml_L_32 okX9_many imX9_many seX9_many ⟨(Nat.le_of_ble_eq_true rfl), (Nat.le_of_ble_eq_true rfl)⟩ (ci := 9) rfl rfl hk rfl rfl (Nat.le_of_ble_eq_true rfl) c1 (by omega) (by omega) A (fun H1 locs1 A1 => ?_)
  have hS1 := lw_S C.2.2.1 A1
  refine lv_aload_n hx hb dL_law_311 rfl (lv_at hl 3 rfl) ?_
  refine lv_aload_n hx hb dL_law_312 rfl (lv_at hl 1 rfl) ?_
  refine lv_iload_n hx hb dL_law_313 rfl (lv_at hl 0 rfl) ?_
  refine lv_iconst (v := nI 1) hx hb dL_law_314 (by decide) ?_
  refine lv_iadd hx hb dL_law_315 ?_
  rw [nI_add i 1]
  refine va_sld hx hb hX hbl hbA hS1 (vp_in_nI (by omega) (by omega)) dL_law_316 ?_
  refine lw_invv (M' := mX10_many) (As := [.int (xs (nI (i + 1)).toNatClampNeg)]) (rest := [.int a]) C dL_law_317 ml_L_35 okX10_many imX10_many seX10_many ⟨(Nat.le_of_ble_eq_true rfl), (Nat.le_of_ble_eq_true rfl)⟩ (ci := 10) rfl rfl km rfl rfl (Nat.le_of_ble_eq_true rfl) c2 (by omega) (by omega) A1 (fun H2 locs2 A2 => ?_)
  have hS2 := lw_S C.2.2.1 A2
  exact lv_icmp_eq (tgt := 1195) hx hb dL_law_320 (by decide) (fun _ => nx h2 H2 locs2 R2 A2) (fun q => absurd rfl q)
set_option maxHeartbeats 1000000 in
theorem lw_case_5 (C : LawC p w s m meth c b L xs) (hL : L ≤ 3072) (hi : i + 6 ≤ L) (hk : zk h x = 9) (S : St l w x T0 k h mX9_link mX10_link [.int (xs (nI (i + 1)).toNatClampNeg), .int (xs (nI (i + 2)).toNatClampNeg)]) (A : zAt w mLw s h H [(3, .int (nI i)), (0, .ref b), (1, .ref x), (2, .ref (x + 333))] ls locs x0 t0) (rm : ∀ h2, RLa x T0 h2 (k + 1) → zx h2 ≤ x0 + 600000 ∧ zt h2 ≤ t0 + 7302250)
    (nx : ∀ h2 H2 locs2, RLa x T0 h2 (k + 1) → zAt w mLw s h2 H2 [(3, .int (nI i)), (0, .ref b), (1, .ref x), (2, .ref (x + 333))] ls locs2 x0 t0 → W p l e room_1 s m #[Value.ref b] below meth c H2 locs2 (zx h2 - x0) (zt h2 - t0) (lw_Z below #[Value.ref b] s) (F0 m 1195 ls [])) : W p l e room_1 s m #[Value.ref b] below meth c H locs (zx h - x0) (zt h - t0) (lw_Z below #[Value.ref b] s) (F0 m 325 ls []) := by
  obtain ⟨⟨hx, hb, -, -, -, -⟩, ⟨hX, hbl⟩, hw, -⟩ := id C
  have hbA : ¬ (fun q : Nat => s.heap.size ≤ q) b := Nat.not_le.mpr hbl
  have hS := lw_S hw A
  have hl := A.2.2.2.1
  obtain ⟨a, h1, h2, c1, c2, km, R2⟩ := S
  have rm2 := rm h2 R2
  have d1 := c1.1
  have d2 := c1.2.1
  have d3 := c2.1
  have d4 := c2.2.1
  refine lv_aload_n hx hb dL_law_325 rfl (lv_at hl 2 rfl) ?_
  refine lv_aload_n hx hb dL_law_326 rfl (lv_at hl 1 rfl) ?_
  refine lv_iload_n hx hb dL_law_327 rfl (lv_at hl 0 rfl) ?_
  refine lv_iconst (v := nI 1) hx hb dL_law_328 (by decide) ?_
  refine lv_iadd hx hb dL_law_329 ?_
  rw [nI_add i 1]
  refine va_sld hx hb hX hbl hbA hS (vp_in_nI (by omega) (by omega)) dL_law_330 ?_
  refine lv_aload_n hx hb dL_law_331 rfl (lv_at hl 1 rfl) ?_
  refine lv_iload_n hx hb dL_law_332 rfl (lv_at hl 0 rfl) ?_
  refine lv_iconst (v := nI 2) hx hb dL_law_333 (by decide) ?_
  refine lv_iadd hx hb dL_law_334 ?_
  rw [nI_add i 2]
  refine va_sld hx hb hX hbl hbA hS (vp_in_nI (by omega) (by omega)) dL_law_335 ?_
  refine lw_invv (M' := mX9_link) (As := [.int (xs (nI (i + 1)).toNatClampNeg), .int (xs (nI (i + 2)).toNatClampNeg)]) (rest := []) C dL_law_336 ml_L_36 okX9_link imX9_link seX9_link ⟨(Nat.le_of_ble_eq_true rfl), (Nat.le_of_ble_eq_true rfl)⟩ (ci := 9) rfl rfl hk rfl rfl (Nat.le_of_ble_eq_true rfl) c1 (by omega) (by omega) A (fun H1 locs1 A1 => ?_)
  have hS1 := lw_S C.2.2.1 A1
  refine lv_aload_n hx hb dL_law_339 rfl (lv_at hl 3 rfl) ?_
  refine lv_aload_n hx hb dL_law_340 rfl (lv_at hl 1 rfl) ?_
  refine lv_iload_n hx hb dL_law_341 rfl (lv_at hl 0 rfl) ?_
  refine lv_iconst (v := nI 1) hx hb dL_law_342 (by decide) ?_
  refine lv_iadd hx hb dL_law_343 ?_
  rw [nI_add i 1]
  refine va_sld hx hb hX hbl hbA hS1 (vp_in_nI (by omega) (by omega)) dL_law_344 ?_
  refine lv_aload_n hx hb dL_law_345 rfl (lv_at hl 1 rfl) ?_
  refine lv_iload_n hx hb dL_law_346 rfl (lv_at hl 0 rfl) ?_
  refine lv_iconst (v := nI 2) hx hb dL_law_347 (by decide) ?_
  refine lv_iadd hx hb dL_law_348 ?_
  rw [nI_add i 2]
  refine va_sld hx hb hX hbl hbA hS1 (vp_in_nI (by omega) (by omega)) dL_law_349 ?_
  refine lw_invv (M' := mX10_link) (As := [.int (xs (nI (i + 1)).toNatClampNeg), .int (xs (nI (i + 2)).toNatClampNeg)]) (rest := [.int a]) C dL_law_350 ml_L_40 okX10_link imX10_link seX10_link ⟨(Nat.le_of_ble_eq_true rfl), (Nat.le_of_ble_eq_true rfl)⟩ (ci := 10) rfl rfl km rfl rfl (Nat.le_of_ble_eq_true rfl) c2 (by omega) (by omega) A1 (fun H2 locs2 A2 => ?_)
  have hS2 := lw_S C.2.2.1 A2
  exact lv_icmp_eq (tgt := 1195) hx hb dL_law_353 (by decide) (fun _ => nx h2 H2 locs2 R2 A2) (fun q => absurd rfl q)
set_option maxHeartbeats 1000000 in
theorem lw_case_6 (C : LawC p w s m meth c b L xs) (hL : L ≤ 3072) (hi : i + 6 ≤ L) (hk : zk h x = 9) (S : St l w x T0 k h mX9_flow mX10_flow [.int (xs (nI (i + 1)).toNatClampNeg), .int (xs (nI (i + 2)).toNatClampNeg)]) (A : zAt w mLw s h H [(3, .int (nI i)), (0, .ref b), (1, .ref x), (2, .ref (x + 333))] ls locs x0 t0) (rm : ∀ h2, RLa x T0 h2 (k + 1) → zx h2 ≤ x0 + 600000 ∧ zt h2 ≤ t0 + 7302250)
    (nx : ∀ h2 H2 locs2, RLa x T0 h2 (k + 1) → zAt w mLw s h2 H2 [(3, .int (nI i)), (0, .ref b), (1, .ref x), (2, .ref (x + 333))] ls locs2 x0 t0 → W p l e room_1 s m #[Value.ref b] below meth c H2 locs2 (zx h2 - x0) (zt h2 - t0) (lw_Z below #[Value.ref b] s) (F0 m 1195 ls [])) : W p l e room_1 s m #[Value.ref b] below meth c H locs (zx h - x0) (zt h - t0) (lw_Z below #[Value.ref b] s) (F0 m 358 ls []) := by
  obtain ⟨⟨hx, hb, -, -, -, -⟩, ⟨hX, hbl⟩, hw, -⟩ := id C
  have hbA : ¬ (fun q : Nat => s.heap.size ≤ q) b := Nat.not_le.mpr hbl
  have hS := lw_S hw A
  have hl := A.2.2.2.1
  obtain ⟨a, h1, h2, c1, c2, km, R2⟩ := S
  have rm2 := rm h2 R2
  have d1 := c1.1
  have d2 := c1.2.1
  have d3 := c2.1
  have d4 := c2.2.1
  refine lv_aload_n hx hb dL_law_358 rfl (lv_at hl 2 rfl) ?_
  refine lv_aload_n hx hb dL_law_359 rfl (lv_at hl 1 rfl) ?_
  refine lv_iload_n hx hb dL_law_360 rfl (lv_at hl 0 rfl) ?_
  refine lv_iconst (v := nI 1) hx hb dL_law_361 (by decide) ?_
  refine lv_iadd hx hb dL_law_362 ?_
  rw [nI_add i 1]
  refine va_sld hx hb hX hbl hbA hS (vp_in_nI (by omega) (by omega)) dL_law_363 ?_
  refine lv_aload_n hx hb dL_law_364 rfl (lv_at hl 1 rfl) ?_
  refine lv_iload_n hx hb dL_law_365 rfl (lv_at hl 0 rfl) ?_
  refine lv_iconst (v := nI 2) hx hb dL_law_366 (by decide) ?_
  refine lv_iadd hx hb dL_law_367 ?_
  rw [nI_add i 2]
  refine va_sld hx hb hX hbl hbA hS (vp_in_nI (by omega) (by omega)) dL_law_368 ?_
  refine lw_invv (M' := mX9_flow) (As := [.int (xs (nI (i + 1)).toNatClampNeg), .int (xs (nI (i + 2)).toNatClampNeg)]) (rest := []) C dL_law_369 ml_L_41 okX9_flow imX9_flow seX9_flow ⟨(Nat.le_of_ble_eq_true rfl), (Nat.le_of_ble_eq_true rfl)⟩ (ci := 9) rfl rfl hk rfl rfl (Nat.le_of_ble_eq_true rfl) c1 (by omega) (by omega) A (fun H1 locs1 A1 => ?_)
  have hS1 := lw_S C.2.2.1 A1
  refine lv_aload_n hx hb dL_law_372 rfl (lv_at hl 3 rfl) ?_
  refine lv_aload_n hx hb dL_law_373 rfl (lv_at hl 1 rfl) ?_
  refine lv_iload_n hx hb dL_law_374 rfl (lv_at hl 0 rfl) ?_
  refine lv_iconst (v := nI 1) hx hb dL_law_375 (by decide) ?_
  refine lv_iadd hx hb dL_law_376 ?_
  rw [nI_add i 1]
  refine va_sld hx hb hX hbl hbA hS1 (vp_in_nI (by omega) (by omega)) dL_law_377 ?_
  refine lv_aload_n hx hb dL_law_378 rfl (lv_at hl 1 rfl) ?_
  refine lv_iload_n hx hb dL_law_379 rfl (lv_at hl 0 rfl) ?_
  refine lv_iconst (v := nI 2) hx hb dL_law_380 (by decide) ?_
  refine lv_iadd hx hb dL_law_381 ?_
  rw [nI_add i 2]
  refine va_sld hx hb hX hbl hbA hS1 (vp_in_nI (by omega) (by omega)) dL_law_382 ?_
  refine lw_invv (M' := mX10_flow) (As := [.int (xs (nI (i + 1)).toNatClampNeg), .int (xs (nI (i + 2)).toNatClampNeg)]) (rest := [.int a]) C dL_law_383 ml_L_44 okX10_flow imX10_flow seX10_flow ⟨(Nat.le_of_ble_eq_true rfl), (Nat.le_of_ble_eq_true rfl)⟩ (ci := 10) rfl rfl km rfl rfl (Nat.le_of_ble_eq_true rfl) c2 (by omega) (by omega) A1 (fun H2 locs2 A2 => ?_)
  have hS2 := lw_S C.2.2.1 A2
  exact lv_icmp_eq (tgt := 1195) hx hb dL_law_386 (by decide) (fun _ => nx h2 H2 locs2 R2 A2) (fun q => absurd rfl q)
set_option maxHeartbeats 1000000 in
theorem lw_case_7 (C : LawC p w s m meth c b L xs) (hL : L ≤ 3072) (hi : i + 6 ≤ L) (hk : zk h x = 9) (S : St l w x T0 k h mX9_path mX10_path [.int (xs (nI (i + 1)).toNatClampNeg), .int (xs (nI (i + 2)).toNatClampNeg)]) (A : zAt w mLw s h H [(3, .int (nI i)), (0, .ref b), (1, .ref x), (2, .ref (x + 333))] ls locs x0 t0) (rm : ∀ h2, RLa x T0 h2 (k + 1) → zx h2 ≤ x0 + 600000 ∧ zt h2 ≤ t0 + 7302250)
    (nx : ∀ h2 H2 locs2, RLa x T0 h2 (k + 1) → zAt w mLw s h2 H2 [(3, .int (nI i)), (0, .ref b), (1, .ref x), (2, .ref (x + 333))] ls locs2 x0 t0 → W p l e room_1 s m #[Value.ref b] below meth c H2 locs2 (zx h2 - x0) (zt h2 - t0) (lw_Z below #[Value.ref b] s) (F0 m 1195 ls [])) : W p l e room_1 s m #[Value.ref b] below meth c H locs (zx h - x0) (zt h - t0) (lw_Z below #[Value.ref b] s) (F0 m 391 ls []) := by
  obtain ⟨⟨hx, hb, -, -, -, -⟩, ⟨hX, hbl⟩, hw, -⟩ := id C
  have hbA : ¬ (fun q : Nat => s.heap.size ≤ q) b := Nat.not_le.mpr hbl
  have hS := lw_S hw A
  have hl := A.2.2.2.1
  obtain ⟨a, h1, h2, c1, c2, km, R2⟩ := S
  have rm2 := rm h2 R2
  have d1 := c1.1
  have d2 := c1.2.1
  have d3 := c2.1
  have d4 := c2.2.1
  refine lv_aload_n hx hb dL_law_391 rfl (lv_at hl 2 rfl) ?_
  refine lv_aload_n hx hb dL_law_392 rfl (lv_at hl 1 rfl) ?_
  refine lv_iload_n hx hb dL_law_393 rfl (lv_at hl 0 rfl) ?_
  refine lv_iconst (v := nI 1) hx hb dL_law_394 (by decide) ?_
  refine lv_iadd hx hb dL_law_395 ?_
  rw [nI_add i 1]
  refine va_sld hx hb hX hbl hbA hS (vp_in_nI (by omega) (by omega)) dL_law_396 ?_
  refine lv_aload_n hx hb dL_law_397 rfl (lv_at hl 1 rfl) ?_
  refine lv_iload_n hx hb dL_law_398 rfl (lv_at hl 0 rfl) ?_
  refine lv_iconst (v := nI 2) hx hb dL_law_399 (by decide) ?_
  refine lv_iadd hx hb dL_law_400 ?_
  rw [nI_add i 2]
  refine va_sld hx hb hX hbl hbA hS (vp_in_nI (by omega) (by omega)) dL_law_401 ?_
  refine lw_invv (M' := mX9_path) (As := [.int (xs (nI (i + 1)).toNatClampNeg), .int (xs (nI (i + 2)).toNatClampNeg)]) (rest := []) C dL_law_402 ml_L_45 okX9_path imX9_path seX9_path ⟨(Nat.le_of_ble_eq_true rfl), (Nat.le_of_ble_eq_true rfl)⟩ (ci := 9) rfl rfl hk rfl rfl (Nat.le_of_ble_eq_true rfl) c1 (by omega) (by omega) A (fun H1 locs1 A1 => ?_)
  have hS1 := lw_S C.2.2.1 A1
  refine lv_aload_n hx hb dL_law_405 rfl (lv_at hl 3 rfl) ?_
  refine lv_aload_n hx hb dL_law_406 rfl (lv_at hl 1 rfl) ?_
  refine lv_iload_n hx hb dL_law_407 rfl (lv_at hl 0 rfl) ?_
  refine lv_iconst (v := nI 1) hx hb dL_law_408 (by decide) ?_
  refine lv_iadd hx hb dL_law_409 ?_
  rw [nI_add i 1]
  refine va_sld hx hb hX hbl hbA hS1 (vp_in_nI (by omega) (by omega)) dL_law_410 ?_
  refine lv_aload_n hx hb dL_law_411 rfl (lv_at hl 1 rfl) ?_
  refine lv_iload_n hx hb dL_law_412 rfl (lv_at hl 0 rfl) ?_
  refine lv_iconst (v := nI 2) hx hb dL_law_413 (by decide) ?_
  refine lv_iadd hx hb dL_law_414 ?_
  rw [nI_add i 2]
  refine va_sld hx hb hX hbl hbA hS1 (vp_in_nI (by omega) (by omega)) dL_law_415 ?_
  refine lw_invv (M' := mX10_path) (As := [.int (xs (nI (i + 1)).toNatClampNeg), .int (xs (nI (i + 2)).toNatClampNeg)]) (rest := [.int a]) C dL_law_416 ml_L_48 okX10_path imX10_path seX10_path ⟨(Nat.le_of_ble_eq_true rfl), (Nat.le_of_ble_eq_true rfl)⟩ (ci := 10) rfl rfl km rfl rfl (Nat.le_of_ble_eq_true rfl) c2 (by omega) (by omega) A1 (fun H2 locs2 A2 => ?_)
  have hS2 := lw_S C.2.2.1 A2
  exact lv_icmp_eq (tgt := 1195) hx hb dL_law_419 (by decide) (fun _ => nx h2 H2 locs2 R2 A2) (fun q => absurd rfl q)
set_option maxHeartbeats 1000000 in
theorem lw_case_8 (C : LawC p w s m meth c b L xs) (hL : L ≤ 3072) (hi : i + 6 ≤ L) (hk : zk h x = 9) (S : St l w x T0 k h mX9_packet mX10_packet [.int (xs (nI (i + 1)).toNatClampNeg), .int (xs (nI (i + 2)).toNatClampNeg), .int (xs (nI (i + 3)).toNatClampNeg)]) (A : zAt w mLw s h H [(3, .int (nI i)), (0, .ref b), (1, .ref x), (2, .ref (x + 333))] ls locs x0 t0) (rm : ∀ h2, RLa x T0 h2 (k + 1) → zx h2 ≤ x0 + 600000 ∧ zt h2 ≤ t0 + 7302250)
    (nx : ∀ h2 H2 locs2, RLa x T0 h2 (k + 1) → zAt w mLw s h2 H2 [(3, .int (nI i)), (0, .ref b), (1, .ref x), (2, .ref (x + 333))] ls locs2 x0 t0 → W p l e room_1 s m #[Value.ref b] below meth c H2 locs2 (zx h2 - x0) (zt h2 - t0) (lw_Z below #[Value.ref b] s) (F0 m 1195 ls [])) : W p l e room_1 s m #[Value.ref b] below meth c H locs (zx h - x0) (zt h - t0) (lw_Z below #[Value.ref b] s) (F0 m 424 ls []) := by
  obtain ⟨⟨hx, hb, -, -, -, -⟩, ⟨hX, hbl⟩, hw, -⟩ := id C
  have hbA : ¬ (fun q : Nat => s.heap.size ≤ q) b := Nat.not_le.mpr hbl
  have hS := lw_S hw A
  have hl := A.2.2.2.1
  obtain ⟨a, h1, h2, c1, c2, km, R2⟩ := S
  have rm2 := rm h2 R2
  have d1 := c1.1
  have d2 := c1.2.1
  have d3 := c2.1
  have d4 := c2.2.1
  refine lv_aload_n hx hb dL_law_424 rfl (lv_at hl 2 rfl) ?_
  refine lv_aload_n hx hb dL_law_425 rfl (lv_at hl 1 rfl) ?_
  refine lv_iload_n hx hb dL_law_426 rfl (lv_at hl 0 rfl) ?_
  refine lv_iconst (v := nI 1) hx hb dL_law_427 (by decide) ?_
  refine lv_iadd hx hb dL_law_428 ?_
  rw [nI_add i 1]
  refine va_sld hx hb hX hbl hbA hS (vp_in_nI (by omega) (by omega)) dL_law_429 ?_
  refine lv_aload_n hx hb dL_law_430 rfl (lv_at hl 1 rfl) ?_
  refine lv_iload_n hx hb dL_law_431 rfl (lv_at hl 0 rfl) ?_
  refine lv_iconst (v := nI 2) hx hb dL_law_432 (by decide) ?_
  refine lv_iadd hx hb dL_law_433 ?_
  rw [nI_add i 2]
  refine va_sld hx hb hX hbl hbA hS (vp_in_nI (by omega) (by omega)) dL_law_434 ?_
  refine lv_aload_n hx hb dL_law_435 rfl (lv_at hl 1 rfl) ?_
  refine lv_iload_n hx hb dL_law_436 rfl (lv_at hl 0 rfl) ?_
  refine lv_iconst (v := nI 3) hx hb dL_law_437 (by decide) ?_
  refine lv_iadd hx hb dL_law_438 ?_
  rw [nI_add i 3]
  refine va_sld hx hb hX hbl hbA hS (vp_in_nI (by omega) (by omega)) dL_law_439 ?_
  refine lw_invv (M' := mX9_packet) (As := [.int (xs (nI (i + 1)).toNatClampNeg), .int (xs (nI (i + 2)).toNatClampNeg), .int (xs (nI (i + 3)).toNatClampNeg)]) (rest := []) C dL_law_440 ml_L_49 okX9_packet imX9_packet seX9_packet ⟨(Nat.le_of_ble_eq_true rfl), (Nat.le_of_ble_eq_true rfl)⟩ (ci := 9) rfl rfl hk rfl rfl (Nat.le_of_ble_eq_true rfl) c1 (by omega) (by omega) A (fun H1 locs1 A1 => ?_)
  have hS1 := lw_S C.2.2.1 A1
  refine lv_aload_n hx hb dL_law_443 rfl (lv_at hl 3 rfl) ?_
  refine lv_aload_n hx hb dL_law_444 rfl (lv_at hl 1 rfl) ?_
  refine lv_iload_n hx hb dL_law_445 rfl (lv_at hl 0 rfl) ?_
  refine lv_iconst (v := nI 1) hx hb dL_law_446 (by decide) ?_
  refine lv_iadd hx hb dL_law_447 ?_
  rw [nI_add i 1]
  refine va_sld hx hb hX hbl hbA hS1 (vp_in_nI (by omega) (by omega)) dL_law_448 ?_
  refine lv_aload_n hx hb dL_law_449 rfl (lv_at hl 1 rfl) ?_
  refine lv_iload_n hx hb dL_law_450 rfl (lv_at hl 0 rfl) ?_
  refine lv_iconst (v := nI 2) hx hb dL_law_451 (by decide) ?_
  refine lv_iadd hx hb dL_law_452 ?_
  rw [nI_add i 2]
  refine va_sld hx hb hX hbl hbA hS1 (vp_in_nI (by omega) (by omega)) dL_law_453 ?_
  refine lv_aload_n hx hb dL_law_454 rfl (lv_at hl 1 rfl) ?_
  refine lv_iload_n hx hb dL_law_455 rfl (lv_at hl 0 rfl) ?_
  refine lv_iconst (v := nI 3) hx hb dL_law_456 (by decide) ?_
  refine lv_iadd hx hb dL_law_457 ?_
  rw [nI_add i 3]
  refine va_sld hx hb hX hbl hbA hS1 (vp_in_nI (by omega) (by omega)) dL_law_458 ?_
  refine lw_invv (M' := mX10_packet) (As := [.int (xs (nI (i + 1)).toNatClampNeg), .int (xs (nI (i + 2)).toNatClampNeg), .int (xs (nI (i + 3)).toNatClampNeg)]) (rest := [.int a]) C dL_law_459 ml_L_53 okX10_packet imX10_packet seX10_packet ⟨(Nat.le_of_ble_eq_true rfl), (Nat.le_of_ble_eq_true rfl)⟩ (ci := 10) rfl rfl km rfl rfl (Nat.le_of_ble_eq_true rfl) c2 (by omega) (by omega) A1 (fun H2 locs2 A2 => ?_)
  have hS2 := lw_S C.2.2.1 A2
  exact lv_icmp_eq (tgt := 1195) hx hb dL_law_462 (by decide) (fun _ => nx h2 H2 locs2 R2 A2) (fun q => absurd rfl q)
set_option maxHeartbeats 1000000 in
theorem lw_case_9 (C : LawC p w s m meth c b L xs) (hL : L ≤ 3072) (hi : i + 6 ≤ L) (hk : zk h x = 9) (S : St l w x T0 k h mX9_event mX10_event [.int (xs (nI (i + 1)).toNatClampNeg), .int (xs (nI (i + 2)).toNatClampNeg)]) (A : zAt w mLw s h H [(3, .int (nI i)), (0, .ref b), (1, .ref x), (2, .ref (x + 333))] ls locs x0 t0) (rm : ∀ h2, RLa x T0 h2 (k + 1) → zx h2 ≤ x0 + 600000 ∧ zt h2 ≤ t0 + 7302250)
    (nx : ∀ h2 H2 locs2, RLa x T0 h2 (k + 1) → zAt w mLw s h2 H2 [(3, .int (nI i)), (0, .ref b), (1, .ref x), (2, .ref (x + 333))] ls locs2 x0 t0 → W p l e room_1 s m #[Value.ref b] below meth c H2 locs2 (zx h2 - x0) (zt h2 - t0) (lw_Z below #[Value.ref b] s) (F0 m 1195 ls [])) : W p l e room_1 s m #[Value.ref b] below meth c H locs (zx h - x0) (zt h - t0) (lw_Z below #[Value.ref b] s) (F0 m 467 ls []) := by
  obtain ⟨⟨hx, hb, -, -, -, -⟩, ⟨hX, hbl⟩, hw, -⟩ := id C
  have hbA : ¬ (fun q : Nat => s.heap.size ≤ q) b := Nat.not_le.mpr hbl
  have hS := lw_S hw A
  have hl := A.2.2.2.1
  obtain ⟨a, h1, h2, c1, c2, km, R2⟩ := S
  have rm2 := rm h2 R2
  have d1 := c1.1
  have d2 := c1.2.1
  have d3 := c2.1
  have d4 := c2.2.1
  refine lv_aload_n hx hb dL_law_467 rfl (lv_at hl 2 rfl) ?_
  refine lv_aload_n hx hb dL_law_468 rfl (lv_at hl 1 rfl) ?_
  refine lv_iload_n hx hb dL_law_469 rfl (lv_at hl 0 rfl) ?_
  refine lv_iconst (v := nI 1) hx hb dL_law_470 (by decide) ?_
  refine lv_iadd hx hb dL_law_471 ?_
  rw [nI_add i 1]
  refine va_sld hx hb hX hbl hbA hS (vp_in_nI (by omega) (by omega)) dL_law_472 ?_
  refine lv_aload_n hx hb dL_law_473 rfl (lv_at hl 1 rfl) ?_
  refine lv_iload_n hx hb dL_law_474 rfl (lv_at hl 0 rfl) ?_
  refine lv_iconst (v := nI 2) hx hb dL_law_475 (by decide) ?_
  refine lv_iadd hx hb dL_law_476 ?_
  rw [nI_add i 2]
  refine va_sld hx hb hX hbl hbA hS (vp_in_nI (by omega) (by omega)) dL_law_477 ?_
  refine lw_invv (M' := mX9_event) (As := [.int (xs (nI (i + 1)).toNatClampNeg), .int (xs (nI (i + 2)).toNatClampNeg)]) (rest := []) C dL_law_478 ml_L_54 okX9_event imX9_event seX9_event ⟨(Nat.le_of_ble_eq_true rfl), (Nat.le_of_ble_eq_true rfl)⟩ (ci := 9) rfl rfl hk rfl rfl (Nat.le_of_ble_eq_true rfl) c1 (by omega) (by omega) A (fun H1 locs1 A1 => ?_)
  have hS1 := lw_S C.2.2.1 A1
  refine lv_aload_n hx hb dL_law_481 rfl (lv_at hl 3 rfl) ?_
  refine lv_aload_n hx hb dL_law_482 rfl (lv_at hl 1 rfl) ?_
  refine lv_iload_n hx hb dL_law_483 rfl (lv_at hl 0 rfl) ?_
  refine lv_iconst (v := nI 1) hx hb dL_law_484 (by decide) ?_
  refine lv_iadd hx hb dL_law_485 ?_
  rw [nI_add i 1]
  refine va_sld hx hb hX hbl hbA hS1 (vp_in_nI (by omega) (by omega)) dL_law_486 ?_
  refine lv_aload_n hx hb dL_law_487 rfl (lv_at hl 1 rfl) ?_
  refine lv_iload_n hx hb dL_law_488 rfl (lv_at hl 0 rfl) ?_
  refine lv_iconst (v := nI 2) hx hb dL_law_489 (by decide) ?_
  refine lv_iadd hx hb dL_law_490 ?_
  rw [nI_add i 2]
  refine va_sld hx hb hX hbl hbA hS1 (vp_in_nI (by omega) (by omega)) dL_law_491 ?_
  refine lw_invv (M' := mX10_event) (As := [.int (xs (nI (i + 1)).toNatClampNeg), .int (xs (nI (i + 2)).toNatClampNeg)]) (rest := [.int a]) C dL_law_492 ml_L_57 okX10_event imX10_event seX10_event ⟨(Nat.le_of_ble_eq_true rfl), (Nat.le_of_ble_eq_true rfl)⟩ (ci := 10) rfl rfl km rfl rfl (Nat.le_of_ble_eq_true rfl) c2 (by omega) (by omega) A1 (fun H2 locs2 A2 => ?_)
  have hS2 := lw_S C.2.2.1 A2
  exact lv_icmp_eq (tgt := 1195) hx hb dL_law_495 (by decide) (fun _ => nx h2 H2 locs2 R2 A2) (fun q => absurd rfl q)
set_option maxHeartbeats 1000000 in
theorem lw_case_10 (C : LawC p w s m meth c b L xs) (hL : L ≤ 3072) (hi : i + 6 ≤ L) (hk : zk h x = 9) (S : St l w x T0 k h mX9_given mX10_given [.int (xs (nI (i + 1)).toNatClampNeg), .int (xs (nI (i + 2)).toNatClampNeg)]) (A : zAt w mLw s h H [(3, .int (nI i)), (0, .ref b), (1, .ref x), (2, .ref (x + 333))] ls locs x0 t0) (rm : ∀ h2, RLa x T0 h2 (k + 1) → zx h2 ≤ x0 + 600000 ∧ zt h2 ≤ t0 + 7302250)
    (nx : ∀ h2 H2 locs2, RLa x T0 h2 (k + 1) → zAt w mLw s h2 H2 [(3, .int (nI i)), (0, .ref b), (1, .ref x), (2, .ref (x + 333))] ls locs2 x0 t0 → W p l e room_1 s m #[Value.ref b] below meth c H2 locs2 (zx h2 - x0) (zt h2 - t0) (lw_Z below #[Value.ref b] s) (F0 m 1195 ls [])) : W p l e room_1 s m #[Value.ref b] below meth c H locs (zx h - x0) (zt h - t0) (lw_Z below #[Value.ref b] s) (F0 m 500 ls []) := by
  obtain ⟨⟨hx, hb, -, -, -, -⟩, ⟨hX, hbl⟩, hw, -⟩ := id C
  have hbA : ¬ (fun q : Nat => s.heap.size ≤ q) b := Nat.not_le.mpr hbl
  have hS := lw_S hw A
  have hl := A.2.2.2.1
  obtain ⟨a, h1, h2, c1, c2, km, R2⟩ := S
  have rm2 := rm h2 R2
  have d1 := c1.1
  have d2 := c1.2.1
  have d3 := c2.1
  have d4 := c2.2.1
  refine lv_aload_n hx hb dL_law_500 rfl (lv_at hl 2 rfl) ?_
  refine lv_aload_n hx hb dL_law_501 rfl (lv_at hl 1 rfl) ?_
  refine lv_iload_n hx hb dL_law_502 rfl (lv_at hl 0 rfl) ?_
  refine lv_iconst (v := nI 1) hx hb dL_law_503 (by decide) ?_
  refine lv_iadd hx hb dL_law_504 ?_
  rw [nI_add i 1]
  refine va_sld hx hb hX hbl hbA hS (vp_in_nI (by omega) (by omega)) dL_law_505 ?_
  refine lv_aload_n hx hb dL_law_506 rfl (lv_at hl 1 rfl) ?_
  refine lv_iload_n hx hb dL_law_507 rfl (lv_at hl 0 rfl) ?_
  refine lv_iconst (v := nI 2) hx hb dL_law_508 (by decide) ?_
  refine lv_iadd hx hb dL_law_509 ?_
  rw [nI_add i 2]
  refine va_sld hx hb hX hbl hbA hS (vp_in_nI (by omega) (by omega)) dL_law_510 ?_
  refine lw_invv (M' := mX9_given) (As := [.int (xs (nI (i + 1)).toNatClampNeg), .int (xs (nI (i + 2)).toNatClampNeg)]) (rest := []) C dL_law_511 ml_L_58 okX9_given imX9_given seX9_given ⟨(Nat.le_of_ble_eq_true rfl), (Nat.le_of_ble_eq_true rfl)⟩ (ci := 9) rfl rfl hk rfl rfl (Nat.le_of_ble_eq_true rfl) c1 (by omega) (by omega) A (fun H1 locs1 A1 => ?_)
  have hS1 := lw_S C.2.2.1 A1
  refine lv_aload_n hx hb dL_law_514 rfl (lv_at hl 3 rfl) ?_
  refine lv_aload_n hx hb dL_law_515 rfl (lv_at hl 1 rfl) ?_
  refine lv_iload_n hx hb dL_law_516 rfl (lv_at hl 0 rfl) ?_
  refine lv_iconst (v := nI 1) hx hb dL_law_517 (by decide) ?_
  refine lv_iadd hx hb dL_law_518 ?_
  rw [nI_add i 1]
  refine va_sld hx hb hX hbl hbA hS1 (vp_in_nI (by omega) (by omega)) dL_law_519 ?_
  refine lv_aload_n hx hb dL_law_520 rfl (lv_at hl 1 rfl) ?_
  refine lv_iload_n hx hb dL_law_521 rfl (lv_at hl 0 rfl) ?_
  refine lv_iconst (v := nI 2) hx hb dL_law_522 (by decide) ?_
  refine lv_iadd hx hb dL_law_523 ?_
  rw [nI_add i 2]
  refine va_sld hx hb hX hbl hbA hS1 (vp_in_nI (by omega) (by omega)) dL_law_524 ?_
  refine lw_invv (M' := mX10_given) (As := [.int (xs (nI (i + 1)).toNatClampNeg), .int (xs (nI (i + 2)).toNatClampNeg)]) (rest := [.int a]) C dL_law_525 ml_L_61 okX10_given imX10_given seX10_given ⟨(Nat.le_of_ble_eq_true rfl), (Nat.le_of_ble_eq_true rfl)⟩ (ci := 10) rfl rfl km rfl rfl (Nat.le_of_ble_eq_true rfl) c2 (by omega) (by omega) A1 (fun H2 locs2 A2 => ?_)
  have hS2 := lw_S C.2.2.1 A2
  exact lv_icmp_eq (tgt := 1195) hx hb dL_law_528 (by decide) (fun _ => nx h2 H2 locs2 R2 A2) (fun q => absurd rfl q)
set_option maxHeartbeats 1000000 in
theorem lw_case_11 (C : LawC p w s m meth c b L xs) (hL : L ≤ 3072) (hi : i + 6 ≤ L) (hk : zk h x = 9) (S : St l w x T0 k h mX9_where mX10_where [.int (xs (nI (i + 1)).toNatClampNeg), .int (xs (nI (i + 2)).toNatClampNeg)]) (A : zAt w mLw s h H [(3, .int (nI i)), (0, .ref b), (1, .ref x), (2, .ref (x + 333))] ls locs x0 t0) (rm : ∀ h2, RLa x T0 h2 (k + 1) → zx h2 ≤ x0 + 600000 ∧ zt h2 ≤ t0 + 7302250)
    (nx : ∀ h2 H2 locs2, RLa x T0 h2 (k + 1) → zAt w mLw s h2 H2 [(3, .int (nI i)), (0, .ref b), (1, .ref x), (2, .ref (x + 333))] ls locs2 x0 t0 → W p l e room_1 s m #[Value.ref b] below meth c H2 locs2 (zx h2 - x0) (zt h2 - t0) (lw_Z below #[Value.ref b] s) (F0 m 1195 ls [])) : W p l e room_1 s m #[Value.ref b] below meth c H locs (zx h - x0) (zt h - t0) (lw_Z below #[Value.ref b] s) (F0 m 533 ls []) := by
  obtain ⟨⟨hx, hb, -, -, -, -⟩, ⟨hX, hbl⟩, hw, -⟩ := id C
  have hbA : ¬ (fun q : Nat => s.heap.size ≤ q) b := Nat.not_le.mpr hbl
  have hS := lw_S hw A
  have hl := A.2.2.2.1
  obtain ⟨a, h1, h2, c1, c2, km, R2⟩ := S
  have rm2 := rm h2 R2
  have d1 := c1.1
  have d2 := c1.2.1
  have d3 := c2.1
  have d4 := c2.2.1
  refine lv_aload_n hx hb dL_law_533 rfl (lv_at hl 2 rfl) ?_
  refine lv_aload_n hx hb dL_law_534 rfl (lv_at hl 1 rfl) ?_
  refine lv_iload_n hx hb dL_law_535 rfl (lv_at hl 0 rfl) ?_
  refine lv_iconst (v := nI 1) hx hb dL_law_536 (by decide) ?_
  refine lv_iadd hx hb dL_law_537 ?_
  rw [nI_add i 1]
  refine va_sld hx hb hX hbl hbA hS (vp_in_nI (by omega) (by omega)) dL_law_538 ?_
  refine lv_aload_n hx hb dL_law_539 rfl (lv_at hl 1 rfl) ?_
  refine lv_iload_n hx hb dL_law_540 rfl (lv_at hl 0 rfl) ?_
  refine lv_iconst (v := nI 2) hx hb dL_law_541 (by decide) ?_
  refine lv_iadd hx hb dL_law_542 ?_
  rw [nI_add i 2]
  refine va_sld hx hb hX hbl hbA hS (vp_in_nI (by omega) (by omega)) dL_law_543 ?_
  refine lw_invv (M' := mX9_where) (As := [.int (xs (nI (i + 1)).toNatClampNeg), .int (xs (nI (i + 2)).toNatClampNeg)]) (rest := []) C dL_law_544 ml_L_62 okX9_where imX9_where seX9_where ⟨(Nat.le_of_ble_eq_true rfl), (Nat.le_of_ble_eq_true rfl)⟩ (ci := 9) rfl rfl hk rfl rfl (Nat.le_of_ble_eq_true rfl) c1 (by omega) (by omega) A (fun H1 locs1 A1 => ?_)
  have hS1 := lw_S C.2.2.1 A1
  refine lv_aload_n hx hb dL_law_547 rfl (lv_at hl 3 rfl) ?_
  refine lv_aload_n hx hb dL_law_548 rfl (lv_at hl 1 rfl) ?_
  refine lv_iload_n hx hb dL_law_549 rfl (lv_at hl 0 rfl) ?_
  refine lv_iconst (v := nI 1) hx hb dL_law_550 (by decide) ?_
  refine lv_iadd hx hb dL_law_551 ?_
  rw [nI_add i 1]
  refine va_sld hx hb hX hbl hbA hS1 (vp_in_nI (by omega) (by omega)) dL_law_552 ?_
  refine lv_aload_n hx hb dL_law_553 rfl (lv_at hl 1 rfl) ?_
  refine lv_iload_n hx hb dL_law_554 rfl (lv_at hl 0 rfl) ?_
  refine lv_iconst (v := nI 2) hx hb dL_law_555 (by decide) ?_
  refine lv_iadd hx hb dL_law_556 ?_
  rw [nI_add i 2]
  refine va_sld hx hb hX hbl hbA hS1 (vp_in_nI (by omega) (by omega)) dL_law_557 ?_
  refine lw_invv (M' := mX10_where) (As := [.int (xs (nI (i + 1)).toNatClampNeg), .int (xs (nI (i + 2)).toNatClampNeg)]) (rest := [.int a]) C dL_law_558 ml_L_65 okX10_where imX10_where seX10_where ⟨(Nat.le_of_ble_eq_true rfl), (Nat.le_of_ble_eq_true rfl)⟩ (ci := 10) rfl rfl km rfl rfl (Nat.le_of_ble_eq_true rfl) c2 (by omega) (by omega) A1 (fun H2 locs2 A2 => ?_)
  have hS2 := lw_S C.2.2.1 A2
  exact lv_icmp_eq (tgt := 1195) hx hb dL_law_561 (by decide) (fun _ => nx h2 H2 locs2 R2 A2) (fun q => absurd rfl q)
set_option maxHeartbeats 1000000 in
theorem lw_case_12 (C : LawC p w s m meth c b L xs) (hL : L ≤ 3072) (hi : i + 6 ≤ L) (hk : zk h x = 9) (S : St l w x T0 k h mX9_eldest mX10_eldest [.int (xs (nI (i + 1)).toNatClampNeg)]) (A : zAt w mLw s h H [(3, .int (nI i)), (0, .ref b), (1, .ref x), (2, .ref (x + 333))] ls locs x0 t0) (rm : ∀ h2, RLa x T0 h2 (k + 1) → zx h2 ≤ x0 + 600000 ∧ zt h2 ≤ t0 + 7302250)
    (nx : ∀ h2 H2 locs2, RLa x T0 h2 (k + 1) → zAt w mLw s h2 H2 [(3, .int (nI i)), (0, .ref b), (1, .ref x), (2, .ref (x + 333))] ls locs2 x0 t0 → W p l e room_1 s m #[Value.ref b] below meth c H2 locs2 (zx h2 - x0) (zt h2 - t0) (lw_Z below #[Value.ref b] s) (F0 m 1195 ls [])) : W p l e room_1 s m #[Value.ref b] below meth c H locs (zx h - x0) (zt h - t0) (lw_Z below #[Value.ref b] s) (F0 m 566 ls []) := by
  obtain ⟨⟨hx, hb, -, -, -, -⟩, ⟨hX, hbl⟩, hw, -⟩ := id C
  have hbA : ¬ (fun q : Nat => s.heap.size ≤ q) b := Nat.not_le.mpr hbl
  have hS := lw_S hw A
  have hl := A.2.2.2.1
  obtain ⟨a, h1, h2, c1, c2, km, R2⟩ := S
  have rm2 := rm h2 R2
  have d1 := c1.1
  have d2 := c1.2.1
  have d3 := c2.1
  have d4 := c2.2.1
  refine lv_aload_n hx hb dL_law_566 rfl (lv_at hl 2 rfl) ?_
  refine lv_aload_n hx hb dL_law_567 rfl (lv_at hl 1 rfl) ?_
  refine lv_iload_n hx hb dL_law_568 rfl (lv_at hl 0 rfl) ?_
  refine lv_iconst (v := nI 1) hx hb dL_law_569 (by decide) ?_
  refine lv_iadd hx hb dL_law_570 ?_
  rw [nI_add i 1]
  refine va_sld hx hb hX hbl hbA hS (vp_in_nI (by omega) (by omega)) dL_law_571 ?_
  refine lw_invv (M' := mX9_eldest) (As := [.int (xs (nI (i + 1)).toNatClampNeg)]) (rest := []) C dL_law_572 ml_L_66 okX9_eldest imX9_eldest seX9_eldest ⟨(Nat.le_of_ble_eq_true rfl), (Nat.le_of_ble_eq_true rfl)⟩ (ci := 9) rfl rfl hk rfl rfl (Nat.le_of_ble_eq_true rfl) c1 (by omega) (by omega) A (fun H1 locs1 A1 => ?_)
  have hS1 := lw_S C.2.2.1 A1
  refine lv_aload_n hx hb dL_law_575 rfl (lv_at hl 3 rfl) ?_
  refine lv_aload_n hx hb dL_law_576 rfl (lv_at hl 1 rfl) ?_
  refine lv_iload_n hx hb dL_law_577 rfl (lv_at hl 0 rfl) ?_
  refine lv_iconst (v := nI 1) hx hb dL_law_578 (by decide) ?_
  refine lv_iadd hx hb dL_law_579 ?_
  rw [nI_add i 1]
  refine va_sld hx hb hX hbl hbA hS1 (vp_in_nI (by omega) (by omega)) dL_law_580 ?_
  refine lw_invv (M' := mX10_eldest) (As := [.int (xs (nI (i + 1)).toNatClampNeg)]) (rest := [.int a]) C dL_law_581 ml_L_69 okX10_eldest imX10_eldest seX10_eldest ⟨(Nat.le_of_ble_eq_true rfl), (Nat.le_of_ble_eq_true rfl)⟩ (ci := 10) rfl rfl km rfl rfl (Nat.le_of_ble_eq_true rfl) c2 (by omega) (by omega) A1 (fun H2 locs2 A2 => ?_)
  have hS2 := lw_S C.2.2.1 A2
  exact lv_icmp_eq (tgt := 1195) hx hb dL_law_584 (by decide) (fun _ => nx h2 H2 locs2 R2 A2) (fun q => absurd rfl q)
set_option maxHeartbeats 1000000 in
theorem lw_case_13 (C : LawC p w s m meth c b L xs) (hL : L ≤ 3072) (hi : i + 6 ≤ L) (hk : zk h x = 9) (S : St l w x T0 k h mX9_past mX10_past [.int (xs (nI (i + 1)).toNatClampNeg), .int (xs (nI (i + 2)).toNatClampNeg)]) (A : zAt w mLw s h H [(3, .int (nI i)), (0, .ref b), (1, .ref x), (2, .ref (x + 333))] ls locs x0 t0) (rm : ∀ h2, RLa x T0 h2 (k + 1) → zx h2 ≤ x0 + 600000 ∧ zt h2 ≤ t0 + 7302250)
    (nx : ∀ h2 H2 locs2, RLa x T0 h2 (k + 1) → zAt w mLw s h2 H2 [(3, .int (nI i)), (0, .ref b), (1, .ref x), (2, .ref (x + 333))] ls locs2 x0 t0 → W p l e room_1 s m #[Value.ref b] below meth c H2 locs2 (zx h2 - x0) (zt h2 - t0) (lw_Z below #[Value.ref b] s) (F0 m 1195 ls [])) : W p l e room_1 s m #[Value.ref b] below meth c H locs (zx h - x0) (zt h - t0) (lw_Z below #[Value.ref b] s) (F0 m 589 ls []) := by
  obtain ⟨⟨hx, hb, -, -, -, -⟩, ⟨hX, hbl⟩, hw, -⟩ := id C
  have hbA : ¬ (fun q : Nat => s.heap.size ≤ q) b := Nat.not_le.mpr hbl
  have hS := lw_S hw A
  have hl := A.2.2.2.1
  obtain ⟨a, h1, h2, c1, c2, km, R2⟩ := S
  have rm2 := rm h2 R2
  have d1 := c1.1
  have d2 := c1.2.1
  have d3 := c2.1
  have d4 := c2.2.1
  refine lv_aload_n hx hb dL_law_589 rfl (lv_at hl 2 rfl) ?_
  refine lv_aload_n hx hb dL_law_590 rfl (lv_at hl 1 rfl) ?_
  refine lv_iload_n hx hb dL_law_591 rfl (lv_at hl 0 rfl) ?_
  refine lv_iconst (v := nI 1) hx hb dL_law_592 (by decide) ?_
  refine lv_iadd hx hb dL_law_593 ?_
  rw [nI_add i 1]
  refine va_sld hx hb hX hbl hbA hS (vp_in_nI (by omega) (by omega)) dL_law_594 ?_
  refine lv_aload_n hx hb dL_law_595 rfl (lv_at hl 1 rfl) ?_
  refine lv_iload_n hx hb dL_law_596 rfl (lv_at hl 0 rfl) ?_
  refine lv_iconst (v := nI 2) hx hb dL_law_597 (by decide) ?_
  refine lv_iadd hx hb dL_law_598 ?_
  rw [nI_add i 2]
  refine va_sld hx hb hX hbl hbA hS (vp_in_nI (by omega) (by omega)) dL_law_599 ?_
  refine lw_invv (M' := mX9_past) (As := [.int (xs (nI (i + 1)).toNatClampNeg), .int (xs (nI (i + 2)).toNatClampNeg)]) (rest := []) C dL_law_600 ml_L_70 okX9_past imX9_past seX9_past ⟨(Nat.le_of_ble_eq_true rfl), (Nat.le_of_ble_eq_true rfl)⟩ (ci := 9) rfl rfl hk rfl rfl (Nat.le_of_ble_eq_true rfl) c1 (by omega) (by omega) A (fun H1 locs1 A1 => ?_)
  have hS1 := lw_S C.2.2.1 A1
  refine lv_aload_n hx hb dL_law_603 rfl (lv_at hl 3 rfl) ?_
  refine lv_aload_n hx hb dL_law_604 rfl (lv_at hl 1 rfl) ?_
  refine lv_iload_n hx hb dL_law_605 rfl (lv_at hl 0 rfl) ?_
  refine lv_iconst (v := nI 1) hx hb dL_law_606 (by decide) ?_
  refine lv_iadd hx hb dL_law_607 ?_
  rw [nI_add i 1]
  refine va_sld hx hb hX hbl hbA hS1 (vp_in_nI (by omega) (by omega)) dL_law_608 ?_
  refine lv_aload_n hx hb dL_law_609 rfl (lv_at hl 1 rfl) ?_
  refine lv_iload_n hx hb dL_law_610 rfl (lv_at hl 0 rfl) ?_
  refine lv_iconst (v := nI 2) hx hb dL_law_611 (by decide) ?_
  refine lv_iadd hx hb dL_law_612 ?_
  rw [nI_add i 2]
  refine va_sld hx hb hX hbl hbA hS1 (vp_in_nI (by omega) (by omega)) dL_law_613 ?_
  refine lw_invv (M' := mX10_past) (As := [.int (xs (nI (i + 1)).toNatClampNeg), .int (xs (nI (i + 2)).toNatClampNeg)]) (rest := [.int a]) C dL_law_614 ml_L_73 okX10_past imX10_past seX10_past ⟨(Nat.le_of_ble_eq_true rfl), (Nat.le_of_ble_eq_true rfl)⟩ (ci := 10) rfl rfl km rfl rfl (Nat.le_of_ble_eq_true rfl) c2 (by omega) (by omega) A1 (fun H2 locs2 A2 => ?_)
  have hS2 := lw_S C.2.2.1 A2
  exact lv_icmp_eq (tgt := 1195) hx hb dL_law_617 (by decide) (fun _ => nx h2 H2 locs2 R2 A2) (fun q => absurd rfl q)
set_option maxHeartbeats 1000000 in
theorem lw_case_14 (C : LawC p w s m meth c b L xs) (hL : L ≤ 3072) (hi : i + 6 ≤ L) (hk : zk h x = 9) (S : St l w x T0 k h mX9_top mX10_top [.int (xs (nI (i + 1)).toNatClampNeg)]) (A : zAt w mLw s h H [(3, .int (nI i)), (0, .ref b), (1, .ref x), (2, .ref (x + 333))] ls locs x0 t0) (rm : ∀ h2, RLa x T0 h2 (k + 1) → zx h2 ≤ x0 + 600000 ∧ zt h2 ≤ t0 + 7302250)
    (nx : ∀ h2 H2 locs2, RLa x T0 h2 (k + 1) → zAt w mLw s h2 H2 [(3, .int (nI i)), (0, .ref b), (1, .ref x), (2, .ref (x + 333))] ls locs2 x0 t0 → W p l e room_1 s m #[Value.ref b] below meth c H2 locs2 (zx h2 - x0) (zt h2 - t0) (lw_Z below #[Value.ref b] s) (F0 m 1195 ls [])) : W p l e room_1 s m #[Value.ref b] below meth c H locs (zx h - x0) (zt h - t0) (lw_Z below #[Value.ref b] s) (F0 m 622 ls []) := by
  obtain ⟨⟨hx, hb, -, -, -, -⟩, ⟨hX, hbl⟩, hw, -⟩ := id C
  have hbA : ¬ (fun q : Nat => s.heap.size ≤ q) b := Nat.not_le.mpr hbl
  have hS := lw_S hw A
  have hl := A.2.2.2.1
  obtain ⟨a, h1, h2, c1, c2, km, R2⟩ := S
  have rm2 := rm h2 R2
  have d1 := c1.1
  have d2 := c1.2.1
  have d3 := c2.1
  have d4 := c2.2.1
  refine lv_aload_n hx hb dL_law_622 rfl (lv_at hl 2 rfl) ?_
  refine lv_aload_n hx hb dL_law_623 rfl (lv_at hl 1 rfl) ?_
  refine lv_iload_n hx hb dL_law_624 rfl (lv_at hl 0 rfl) ?_
  refine lv_iconst (v := nI 1) hx hb dL_law_625 (by decide) ?_
  refine lv_iadd hx hb dL_law_626 ?_
  rw [nI_add i 1]
  refine va_sld hx hb hX hbl hbA hS (vp_in_nI (by omega) (by omega)) dL_law_627 ?_
  refine lw_invv (M' := mX9_top) (As := [.int (xs (nI (i + 1)).toNatClampNeg)]) (rest := []) C dL_law_628 ml_L_74 okX9_top imX9_top seX9_top ⟨(Nat.le_of_ble_eq_true rfl), (Nat.le_of_ble_eq_true rfl)⟩ (ci := 9) rfl rfl hk rfl rfl (Nat.le_of_ble_eq_true rfl) c1 (by omega) (by omega) A (fun H1 locs1 A1 => ?_)
  have hS1 := lw_S C.2.2.1 A1
  refine lv_aload_n hx hb dL_law_631 rfl (lv_at hl 3 rfl) ?_
  refine lv_aload_n hx hb dL_law_632 rfl (lv_at hl 1 rfl) ?_
  refine lv_iload_n hx hb dL_law_633 rfl (lv_at hl 0 rfl) ?_
  refine lv_iconst (v := nI 1) hx hb dL_law_634 (by decide) ?_
  refine lv_iadd hx hb dL_law_635 ?_
  rw [nI_add i 1]
  refine va_sld hx hb hX hbl hbA hS1 (vp_in_nI (by omega) (by omega)) dL_law_636 ?_
  refine lw_invv (M' := mX10_top) (As := [.int (xs (nI (i + 1)).toNatClampNeg)]) (rest := [.int a]) C dL_law_637 ml_L_77 okX10_top imX10_top seX10_top ⟨(Nat.le_of_ble_eq_true rfl), (Nat.le_of_ble_eq_true rfl)⟩ (ci := 10) rfl rfl km rfl rfl (Nat.le_of_ble_eq_true rfl) c2 (by omega) (by omega) A1 (fun H2 locs2 A2 => ?_)
  have hS2 := lw_S C.2.2.1 A2
  exact lv_icmp_eq (tgt := 1195) hx hb dL_law_640 (by decide) (fun _ => nx h2 H2 locs2 R2 A2) (fun q => absurd rfl q)
set_option maxHeartbeats 1000000 in
theorem lw_case_15 (C : LawC p w s m meth c b L xs) (hL : L ≤ 3072) (hi : i + 6 ≤ L) (hk : zk h x = 9) (S : St l w x T0 k h mX9_alike mX10_alike [.int (xs (nI (i + 1)).toNatClampNeg), .int (xs (nI (i + 2)).toNatClampNeg)]) (A : zAt w mLw s h H [(3, .int (nI i)), (0, .ref b), (1, .ref x), (2, .ref (x + 333))] ls locs x0 t0) (rm : ∀ h2, RLa x T0 h2 (k + 1) → zx h2 ≤ x0 + 600000 ∧ zt h2 ≤ t0 + 7302250)
    (nx : ∀ h2 H2 locs2, RLa x T0 h2 (k + 1) → zAt w mLw s h2 H2 [(3, .int (nI i)), (0, .ref b), (1, .ref x), (2, .ref (x + 333))] ls locs2 x0 t0 → W p l e room_1 s m #[Value.ref b] below meth c H2 locs2 (zx h2 - x0) (zt h2 - t0) (lw_Z below #[Value.ref b] s) (F0 m 1195 ls [])) : W p l e room_1 s m #[Value.ref b] below meth c H locs (zx h - x0) (zt h - t0) (lw_Z below #[Value.ref b] s) (F0 m 645 ls []) := by
  obtain ⟨⟨hx, hb, -, -, -, -⟩, ⟨hX, hbl⟩, hw, -⟩ := id C
  have hbA : ¬ (fun q : Nat => s.heap.size ≤ q) b := Nat.not_le.mpr hbl
  have hS := lw_S hw A
  have hl := A.2.2.2.1
  obtain ⟨a, h1, h2, c1, c2, km, R2⟩ := S
  have rm2 := rm h2 R2
  have d1 := c1.1
  have d2 := c1.2.1
  have d3 := c2.1
  have d4 := c2.2.1
  refine lv_aload_n hx hb dL_law_645 rfl (lv_at hl 2 rfl) ?_
  refine lv_aload_n hx hb dL_law_646 rfl (lv_at hl 1 rfl) ?_
  refine lv_iload_n hx hb dL_law_647 rfl (lv_at hl 0 rfl) ?_
  refine lv_iconst (v := nI 1) hx hb dL_law_648 (by decide) ?_
  refine lv_iadd hx hb dL_law_649 ?_
  rw [nI_add i 1]
  refine va_sld hx hb hX hbl hbA hS (vp_in_nI (by omega) (by omega)) dL_law_650 ?_
  refine lv_aload_n hx hb dL_law_651 rfl (lv_at hl 1 rfl) ?_
  refine lv_iload_n hx hb dL_law_652 rfl (lv_at hl 0 rfl) ?_
  refine lv_iconst (v := nI 2) hx hb dL_law_653 (by decide) ?_
  refine lv_iadd hx hb dL_law_654 ?_
  rw [nI_add i 2]
  refine va_sld hx hb hX hbl hbA hS (vp_in_nI (by omega) (by omega)) dL_law_655 ?_
  refine lw_invv (M' := mX9_alike) (As := [.int (xs (nI (i + 1)).toNatClampNeg), .int (xs (nI (i + 2)).toNatClampNeg)]) (rest := []) C dL_law_656 ml_L_78 okX9_alike imX9_alike seX9_alike ⟨(Nat.le_of_ble_eq_true rfl), (Nat.le_of_ble_eq_true rfl)⟩ (ci := 9) rfl rfl hk rfl rfl (Nat.le_of_ble_eq_true rfl) c1 (by omega) (by omega) A (fun H1 locs1 A1 => ?_)
  have hS1 := lw_S C.2.2.1 A1
  refine lv_aload_n hx hb dL_law_659 rfl (lv_at hl 3 rfl) ?_
  refine lv_aload_n hx hb dL_law_660 rfl (lv_at hl 1 rfl) ?_
  refine lv_iload_n hx hb dL_law_661 rfl (lv_at hl 0 rfl) ?_
  refine lv_iconst (v := nI 1) hx hb dL_law_662 (by decide) ?_
  refine lv_iadd hx hb dL_law_663 ?_
  rw [nI_add i 1]
  refine va_sld hx hb hX hbl hbA hS1 (vp_in_nI (by omega) (by omega)) dL_law_664 ?_
  refine lv_aload_n hx hb dL_law_665 rfl (lv_at hl 1 rfl) ?_
  refine lv_iload_n hx hb dL_law_666 rfl (lv_at hl 0 rfl) ?_
  refine lv_iconst (v := nI 2) hx hb dL_law_667 (by decide) ?_
  refine lv_iadd hx hb dL_law_668 ?_
  rw [nI_add i 2]
  refine va_sld hx hb hX hbl hbA hS1 (vp_in_nI (by omega) (by omega)) dL_law_669 ?_
  refine lw_invv (M' := mX10_alike) (As := [.int (xs (nI (i + 1)).toNatClampNeg), .int (xs (nI (i + 2)).toNatClampNeg)]) (rest := [.int a]) C dL_law_670 ml_L_81 okX10_alike imX10_alike seX10_alike ⟨(Nat.le_of_ble_eq_true rfl), (Nat.le_of_ble_eq_true rfl)⟩ (ci := 10) rfl rfl km rfl rfl (Nat.le_of_ble_eq_true rfl) c2 (by omega) (by omega) A1 (fun H2 locs2 A2 => ?_)
  have hS2 := lw_S C.2.2.1 A2
  exact lv_icmp_eq (tgt := 1195) hx hb dL_law_673 (by decide) (fun _ => nx h2 H2 locs2 R2 A2) (fun q => absurd rfl q)
set_option maxHeartbeats 1000000 in
theorem lw_case_16 (C : LawC p w s m meth c b L xs) (hL : L ≤ 3072) (hi : i + 6 ≤ L) (hk : zk h x = 9) (S : St l w x T0 k h mX9_set mX10_set [.int (xs (nI (i + 1)).toNatClampNeg), .int (xs (nI (i + 2)).toNatClampNeg), .int (xs (nI (i + 3)).toNatClampNeg)]) (A : zAt w mLw s h H [(3, .int (nI i)), (0, .ref b), (1, .ref x), (2, .ref (x + 333))] ls locs x0 t0) (rm : ∀ h2, RLa x T0 h2 (k + 1) → zx h2 ≤ x0 + 600000 ∧ zt h2 ≤ t0 + 7302250)
    (nx : ∀ h2 H2 locs2, RLa x T0 h2 (k + 1) → zAt w mLw s h2 H2 [(3, .int (nI i)), (0, .ref b), (1, .ref x), (2, .ref (x + 333))] ls locs2 x0 t0 → W p l e room_1 s m #[Value.ref b] below meth c H2 locs2 (zx h2 - x0) (zt h2 - t0) (lw_Z below #[Value.ref b] s) (F0 m 1195 ls [])) : W p l e room_1 s m #[Value.ref b] below meth c H locs (zx h - x0) (zt h - t0) (lw_Z below #[Value.ref b] s) (F0 m 678 ls []) := by
  obtain ⟨⟨hx, hb, -, -, -, -⟩, ⟨hX, hbl⟩, hw, -⟩ := id C
  have hbA : ¬ (fun q : Nat => s.heap.size ≤ q) b := Nat.not_le.mpr hbl
  have hS := lw_S hw A
  have hl := A.2.2.2.1
  obtain ⟨a, h1, h2, c1, c2, km, R2⟩ := S
  have rm2 := rm h2 R2
  have d1 := c1.1
  have d2 := c1.2.1
  have d3 := c2.1
  have d4 := c2.2.1
  refine lv_aload_n hx hb dL_law_678 rfl (lv_at hl 2 rfl) ?_
  refine lv_aload_n hx hb dL_law_679 rfl (lv_at hl 1 rfl) ?_
  refine lv_iload_n hx hb dL_law_680 rfl (lv_at hl 0 rfl) ?_
  refine lv_iconst (v := nI 1) hx hb dL_law_681 (by decide) ?_
  refine lv_iadd hx hb dL_law_682 ?_
  rw [nI_add i 1]
  refine va_sld hx hb hX hbl hbA hS (vp_in_nI (by omega) (by omega)) dL_law_683 ?_
  refine lv_aload_n hx hb dL_law_684 rfl (lv_at hl 1 rfl) ?_
  refine lv_iload_n hx hb dL_law_685 rfl (lv_at hl 0 rfl) ?_
  refine lv_iconst (v := nI 2) hx hb dL_law_686 (by decide) ?_
  refine lv_iadd hx hb dL_law_687 ?_
  rw [nI_add i 2]
  refine va_sld hx hb hX hbl hbA hS (vp_in_nI (by omega) (by omega)) dL_law_688 ?_
  refine lv_aload_n hx hb dL_law_689 rfl (lv_at hl 1 rfl) ?_
  refine lv_iload_n hx hb dL_law_690 rfl (lv_at hl 0 rfl) ?_
  refine lv_iconst (v := nI 3) hx hb dL_law_691 (by decide) ?_
  refine lv_iadd hx hb dL_law_692 ?_
  rw [nI_add i 3]
  refine va_sld hx hb hX hbl hbA hS (vp_in_nI (by omega) (by omega)) dL_law_693 ?_
  refine lw_invv (M' := mX9_set) (As := [.int (xs (nI (i + 1)).toNatClampNeg), .int (xs (nI (i + 2)).toNatClampNeg), .int (xs (nI (i + 3)).toNatClampNeg)]) (rest := []) C dL_law_694 ml_L_82 okX9_set imX9_set seX9_set ⟨(Nat.le_of_ble_eq_true rfl), (Nat.le_of_ble_eq_true rfl)⟩ (ci := 9) rfl rfl hk rfl rfl (Nat.le_of_ble_eq_true rfl) c1 (by omega) (by omega) A (fun H1 locs1 A1 => ?_)
  have hS1 := lw_S C.2.2.1 A1
  refine lv_aload_n hx hb dL_law_697 rfl (lv_at hl 3 rfl) ?_
  refine lv_aload_n hx hb dL_law_698 rfl (lv_at hl 1 rfl) ?_
  refine lv_iload_n hx hb dL_law_699 rfl (lv_at hl 0 rfl) ?_
  refine lv_iconst (v := nI 1) hx hb dL_law_700 (by decide) ?_
  refine lv_iadd hx hb dL_law_701 ?_
  rw [nI_add i 1]
  refine va_sld hx hb hX hbl hbA hS1 (vp_in_nI (by omega) (by omega)) dL_law_702 ?_
  refine lv_aload_n hx hb dL_law_703 rfl (lv_at hl 1 rfl) ?_
  refine lv_iload_n hx hb dL_law_704 rfl (lv_at hl 0 rfl) ?_
  refine lv_iconst (v := nI 2) hx hb dL_law_705 (by decide) ?_
  refine lv_iadd hx hb dL_law_706 ?_
  rw [nI_add i 2]
  refine va_sld hx hb hX hbl hbA hS1 (vp_in_nI (by omega) (by omega)) dL_law_707 ?_
  refine lv_aload_n hx hb dL_law_708 rfl (lv_at hl 1 rfl) ?_
  refine lv_iload_n hx hb dL_law_709 rfl (lv_at hl 0 rfl) ?_
  refine lv_iconst (v := nI 3) hx hb dL_law_710 (by decide) ?_
  refine lv_iadd hx hb dL_law_711 ?_
  rw [nI_add i 3]
  refine va_sld hx hb hX hbl hbA hS1 (vp_in_nI (by omega) (by omega)) dL_law_712 ?_
  refine lw_invv (M' := mX10_set) (As := [.int (xs (nI (i + 1)).toNatClampNeg), .int (xs (nI (i + 2)).toNatClampNeg), .int (xs (nI (i + 3)).toNatClampNeg)]) (rest := [.int a]) C dL_law_713 ml_L_85 okX10_set imX10_set seX10_set ⟨(Nat.le_of_ble_eq_true rfl), (Nat.le_of_ble_eq_true rfl)⟩ (ci := 10) rfl rfl km rfl rfl (Nat.le_of_ble_eq_true rfl) c2 (by omega) (by omega) A1 (fun H2 locs2 A2 => ?_)
  have hS2 := lw_S C.2.2.1 A2
  exact lv_icmp_eq (tgt := 1195) hx hb dL_law_716 (by decide) (fun _ => nx h2 H2 locs2 R2 A2) (fun q => absurd rfl q)
set_option maxHeartbeats 1000000 in
theorem lw_case_17 (C : LawC p w s m meth c b L xs) (hL : L ≤ 3072) (hi : i + 6 ≤ L) (hk : zk h x = 9) (S : ∀ z : Int, (z = 0 ∨ z = 1) → St l w x T0 k h mX9_turn mX10_turn [.int (xs (nI (i + 1)).toNatClampNeg), .int (jI z)]) (A : zAt w mLw s h H [(3, .int (nI i)), (0, .ref b), (1, .ref x), (2, .ref (x + 333))] ls locs x0 t0) (rm : ∀ h2, RLa x T0 h2 (k + 1) → zx h2 ≤ x0 + 600000 ∧ zt h2 ≤ t0 + 7302250)
    (nx : ∀ h2 H2 locs2, RLa x T0 h2 (k + 1) → zAt w mLw s h2 H2 [(3, .int (nI i)), (0, .ref b), (1, .ref x), (2, .ref (x + 333))] ls locs2 x0 t0 → W p l e room_1 s m #[Value.ref b] below meth c H2 locs2 (zx h2 - x0) (zt h2 - t0) (lw_Z below #[Value.ref b] s) (F0 m 1195 ls [])) : W p l e room_1 s m #[Value.ref b] below meth c H locs (zx h - x0) (zt h - t0) (lw_Z below #[Value.ref b] s) (F0 m 721 ls []) := by
  obtain ⟨⟨hx, hb, -, -, -, -⟩, ⟨hX, hbl⟩, hw, -⟩ := id C
  have hbA : ¬ (fun q : Nat => s.heap.size ≤ q) b := Nat.not_le.mpr hbl
  have hS := lw_S hw A
  have hl := A.2.2.2.1
  by_cases hq : xs (nI (i + 2)).toNatClampNeg = 0
  · obtain ⟨a, h1, h2, c1, c2, km, R2⟩ := S 0 (Or.inl rfl)
    have rm2 := rm h2 R2
    have d1 := c1.1
    have d2 := c1.2.1
    have d3 := c2.1
    have d4 := c2.2.1
    refine lv_aload_n hx hb dL_law_721 rfl (lv_at hl 2 rfl) ?_
    refine lv_aload_n hx hb dL_law_722 rfl (lv_at hl 1 rfl) ?_
    refine lv_iload_n hx hb dL_law_723 rfl (lv_at hl 0 rfl) ?_
    refine lv_iconst (v := nI 1) hx hb dL_law_724 (by decide) ?_
    refine lv_iadd hx hb dL_law_725 ?_
    rw [nI_add i 1]
    refine va_sld hx hb hX hbl hbA hS (vp_in_nI (by omega) (by omega)) dL_law_726 ?_
    refine lv_aload_n hx hb dL_law_727 rfl (lv_at hl 1 rfl) ?_
    refine lv_iload_n hx hb dL_law_728 rfl (lv_at hl 0 rfl) ?_
    refine lv_iconst (v := nI 2) hx hb dL_law_729 (by decide) ?_
    refine lv_iadd hx hb dL_law_730 ?_
    rw [nI_add i 2]
    refine va_sld hx hb hX hbl hbA hS (vp_in_nI (by omega) (by omega)) dL_law_731 ?_
    refine lv_if_eq (tgt := 739) hx hb dL_law_732 (by decide) (fun _ => ?_) (fun q => absurd hq q)
    refine lv_iconst (v := jI 0) hx hb dL_law_739 (by decide) ?_
    refine lw_invv (M' := mX9_turn) (As := [.int (xs (nI (i + 1)).toNatClampNeg), .int (jI 0)]) (rest := []) C dL_law_740 ml_L_86 okX9_turn imX9_turn seX9_turn ⟨(Nat.le_of_ble_eq_true rfl), (Nat.le_of_ble_eq_true rfl)⟩ (ci := 9) rfl rfl hk rfl rfl (Nat.le_of_ble_eq_true rfl) c1 (by omega) (by omega) A (fun H1 locs1 A1 => ?_)
    have hS1 := lw_S C.2.2.1 A1
    refine lv_aload_n hx hb dL_law_743 rfl (lv_at hl 3 rfl) ?_
    refine lv_aload_n hx hb dL_law_744 rfl (lv_at hl 1 rfl) ?_
    refine lv_iload_n hx hb dL_law_745 rfl (lv_at hl 0 rfl) ?_
    refine lv_iconst (v := nI 1) hx hb dL_law_746 (by decide) ?_
    refine lv_iadd hx hb dL_law_747 ?_
    rw [nI_add i 1]
    refine va_sld hx hb hX hbl hbA hS1 (vp_in_nI (by omega) (by omega)) dL_law_748 ?_
    refine lv_aload_n hx hb dL_law_749 rfl (lv_at hl 1 rfl) ?_
    refine lv_iload_n hx hb dL_law_750 rfl (lv_at hl 0 rfl) ?_
    refine lv_iconst (v := nI 2) hx hb dL_law_751 (by decide) ?_
    refine lv_iadd hx hb dL_law_752 ?_
    rw [nI_add i 2]
    refine va_sld hx hb hX hbl hbA hS1 (vp_in_nI (by omega) (by omega)) dL_law_753 ?_
    refine lv_if_eq (tgt := 761) hx hb dL_law_754 (by decide) (fun _ => ?_) (fun q => absurd hq q)
    refine lv_iconst (v := jI 0) hx hb dL_law_761 (by decide) ?_
    refine lw_invv (M' := mX10_turn) (As := [.int (xs (nI (i + 1)).toNatClampNeg), .int (jI 0)]) (rest := [.int a]) C dL_law_762 ml_L_90 okX10_turn imX10_turn seX10_turn ⟨(Nat.le_of_ble_eq_true rfl), (Nat.le_of_ble_eq_true rfl)⟩ (ci := 10) rfl rfl km rfl rfl (Nat.le_of_ble_eq_true rfl) c2 (by omega) (by omega) A1 (fun H2 locs2 A2 => ?_)
    have hS2 := lw_S C.2.2.1 A2
    exact lv_icmp_eq (tgt := 1195) hx hb dL_law_765 (by decide) (fun _ => nx h2 H2 locs2 R2 A2) (fun q => absurd rfl q)
  · obtain ⟨a, h1, h2, c1, c2, km, R2⟩ := S 1 (Or.inr rfl)
    have rm2 := rm h2 R2
    have d1 := c1.1
    have d2 := c1.2.1
    have d3 := c2.1
    have d4 := c2.2.1
    refine lv_aload_n hx hb dL_law_721 rfl (lv_at hl 2 rfl) ?_
    refine lv_aload_n hx hb dL_law_722 rfl (lv_at hl 1 rfl) ?_
    refine lv_iload_n hx hb dL_law_723 rfl (lv_at hl 0 rfl) ?_
    refine lv_iconst (v := nI 1) hx hb dL_law_724 (by decide) ?_
    refine lv_iadd hx hb dL_law_725 ?_
    rw [nI_add i 1]
    refine va_sld hx hb hX hbl hbA hS (vp_in_nI (by omega) (by omega)) dL_law_726 ?_
    refine lv_aload_n hx hb dL_law_727 rfl (lv_at hl 1 rfl) ?_
    refine lv_iload_n hx hb dL_law_728 rfl (lv_at hl 0 rfl) ?_
    refine lv_iconst (v := nI 2) hx hb dL_law_729 (by decide) ?_
    refine lv_iadd hx hb dL_law_730 ?_
    rw [nI_add i 2]
    refine va_sld hx hb hX hbl hbA hS (vp_in_nI (by omega) (by omega)) dL_law_731 ?_
    refine lv_if_eq (tgt := 739) hx hb dL_law_732 (by decide) (fun q => absurd q hq) (fun _ => ?_)
    refine lv_iconst (v := jI 1) hx hb dL_law_735 (by decide) ?_
    refine lv_goto (tgt := 740) hx hb dL_law_736 (by decide) ?_
    refine lw_invv (M' := mX9_turn) (As := [.int (xs (nI (i + 1)).toNatClampNeg), .int (jI 1)]) (rest := []) C dL_law_740 ml_L_86 okX9_turn imX9_turn seX9_turn ⟨(Nat.le_of_ble_eq_true rfl), (Nat.le_of_ble_eq_true rfl)⟩ (ci := 9) rfl rfl hk rfl rfl (Nat.le_of_ble_eq_true rfl) c1 (by omega) (by omega) A (fun H1 locs1 A1 => ?_)
    have hS1 := lw_S C.2.2.1 A1
    refine lv_aload_n hx hb dL_law_743 rfl (lv_at hl 3 rfl) ?_
    refine lv_aload_n hx hb dL_law_744 rfl (lv_at hl 1 rfl) ?_
    refine lv_iload_n hx hb dL_law_745 rfl (lv_at hl 0 rfl) ?_
    refine lv_iconst (v := nI 1) hx hb dL_law_746 (by decide) ?_
    refine lv_iadd hx hb dL_law_747 ?_
    rw [nI_add i 1]
    refine va_sld hx hb hX hbl hbA hS1 (vp_in_nI (by omega) (by omega)) dL_law_748 ?_
    refine lv_aload_n hx hb dL_law_749 rfl (lv_at hl 1 rfl) ?_
    refine lv_iload_n hx hb dL_law_750 rfl (lv_at hl 0 rfl) ?_
    refine lv_iconst (v := nI 2) hx hb dL_law_751 (by decide) ?_
    refine lv_iadd hx hb dL_law_752 ?_
    rw [nI_add i 2]
    refine va_sld hx hb hX hbl hbA hS1 (vp_in_nI (by omega) (by omega)) dL_law_753 ?_
    refine lv_if_eq (tgt := 761) hx hb dL_law_754 (by decide) (fun q => absurd q hq) (fun _ => ?_)
    refine lv_iconst (v := jI 1) hx hb dL_law_757 (by decide) ?_
    refine lv_goto (tgt := 762) hx hb dL_law_758 (by decide) ?_
    refine lw_invv (M' := mX10_turn) (As := [.int (xs (nI (i + 1)).toNatClampNeg), .int (jI 1)]) (rest := [.int a]) C dL_law_762 ml_L_90 okX10_turn imX10_turn seX10_turn ⟨(Nat.le_of_ble_eq_true rfl), (Nat.le_of_ble_eq_true rfl)⟩ (ci := 10) rfl rfl km rfl rfl (Nat.le_of_ble_eq_true rfl) c2 (by omega) (by omega) A1 (fun H2 locs2 A2 => ?_)
    have hS2 := lw_S C.2.2.1 A2
    exact lv_icmp_eq (tgt := 1195) hx hb dL_law_765 (by decide) (fun _ => nx h2 H2 locs2 R2 A2) (fun q => absurd rfl q)
set_option maxHeartbeats 1000000 in
theorem lw_case_18 (C : LawC p w s m meth c b L xs) (hL : L ≤ 3072) (hi : i + 6 ≤ L) (hk : zk h x = 9) (S : St l w x T0 k h mX9_more mX10_more [.int (xs (nI (i + 1)).toNatClampNeg), .int (xs (nI (i + 2)).toNatClampNeg)]) (A : zAt w mLw s h H [(3, .int (nI i)), (0, .ref b), (1, .ref x), (2, .ref (x + 333))] ls locs x0 t0) (rm : ∀ h2, RLa x T0 h2 (k + 1) → zx h2 ≤ x0 + 600000 ∧ zt h2 ≤ t0 + 7302250)
    (nx : ∀ h2 H2 locs2, RLa x T0 h2 (k + 1) → zAt w mLw s h2 H2 [(3, .int (nI i)), (0, .ref b), (1, .ref x), (2, .ref (x + 333))] ls locs2 x0 t0 → W p l e room_1 s m #[Value.ref b] below meth c H2 locs2 (zx h2 - x0) (zt h2 - t0) (lw_Z below #[Value.ref b] s) (F0 m 1195 ls [])) : W p l e room_1 s m #[Value.ref b] below meth c H locs (zx h - x0) (zt h - t0) (lw_Z below #[Value.ref b] s) (F0 m 770 ls []) := by
  obtain ⟨⟨hx, hb, -, -, -, -⟩, ⟨hX, hbl⟩, hw, -⟩ := id C
  have hbA : ¬ (fun q : Nat => s.heap.size ≤ q) b := Nat.not_le.mpr hbl
  have hS := lw_S hw A
  have hl := A.2.2.2.1
  obtain ⟨a, h1, h2, c1, c2, km, R2⟩ := S
  have rm2 := rm h2 R2
  have d1 := c1.1
  have d2 := c1.2.1
  have d3 := c2.1
  have d4 := c2.2.1
  refine lv_aload_n hx hb dL_law_770 rfl (lv_at hl 2 rfl) ?_
  refine lv_aload_n hx hb dL_law_771 rfl (lv_at hl 1 rfl) ?_
  refine lv_iload_n hx hb dL_law_772 rfl (lv_at hl 0 rfl) ?_
  refine lv_iconst (v := nI 1) hx hb dL_law_773 (by decide) ?_
  refine lv_iadd hx hb dL_law_774 ?_
  rw [nI_add i 1]
  refine va_sld hx hb hX hbl hbA hS (vp_in_nI (by omega) (by omega)) dL_law_775 ?_
  refine lv_aload_n hx hb dL_law_776 rfl (lv_at hl 1 rfl) ?_
  refine lv_iload_n hx hb dL_law_777 rfl (lv_at hl 0 rfl) ?_
  refine lv_iconst (v := nI 2) hx hb dL_law_778 (by decide) ?_
  refine lv_iadd hx hb dL_law_779 ?_
  rw [nI_add i 2]
  refine va_sld hx hb hX hbl hbA hS (vp_in_nI (by omega) (by omega)) dL_law_780 ?_
  refine lw_invv (M' := mX9_more) (As := [.int (xs (nI (i + 1)).toNatClampNeg), .int (xs (nI (i + 2)).toNatClampNeg)]) (rest := []) C dL_law_781 ml_L_91 okX9_more imX9_more seX9_more ⟨(Nat.le_of_ble_eq_true rfl), (Nat.le_of_ble_eq_true rfl)⟩ (ci := 9) rfl rfl hk rfl rfl (Nat.le_of_ble_eq_true rfl) c1 (by omega) (by omega) A (fun H1 locs1 A1 => ?_)
  have hS1 := lw_S C.2.2.1 A1
  refine lv_aload_n hx hb dL_law_784 rfl (lv_at hl 3 rfl) ?_
  refine lv_aload_n hx hb dL_law_785 rfl (lv_at hl 1 rfl) ?_
  refine lv_iload_n hx hb dL_law_786 rfl (lv_at hl 0 rfl) ?_
  refine lv_iconst (v := nI 1) hx hb dL_law_787 (by decide) ?_
  refine lv_iadd hx hb dL_law_788 ?_
  rw [nI_add i 1]
  refine va_sld hx hb hX hbl hbA hS1 (vp_in_nI (by omega) (by omega)) dL_law_789 ?_
  refine lv_aload_n hx hb dL_law_790 rfl (lv_at hl 1 rfl) ?_
  refine lv_iload_n hx hb dL_law_791 rfl (lv_at hl 0 rfl) ?_
  refine lv_iconst (v := nI 2) hx hb dL_law_792 (by decide) ?_
  refine lv_iadd hx hb dL_law_793 ?_
  rw [nI_add i 2]
  refine va_sld hx hb hX hbl hbA hS1 (vp_in_nI (by omega) (by omega)) dL_law_794 ?_
  refine lw_invv (M' := mX10_more) (As := [.int (xs (nI (i + 1)).toNatClampNeg), .int (xs (nI (i + 2)).toNatClampNeg)]) (rest := [.int a]) C dL_law_795 ml_L_94 okX10_more imX10_more seX10_more ⟨(Nat.le_of_ble_eq_true rfl), (Nat.le_of_ble_eq_true rfl)⟩ (ci := 10) rfl rfl km rfl rfl (Nat.le_of_ble_eq_true rfl) c2 (by omega) (by omega) A1 (fun H2 locs2 A2 => ?_)
  have hS2 := lw_S C.2.2.1 A2
  exact lv_icmp_eq (tgt := 1195) hx hb dL_law_798 (by decide) (fun _ => nx h2 H2 locs2 R2 A2) (fun q => absurd rfl q)
set_option maxHeartbeats 1000000 in
theorem lw_case_19 (C : LawC p w s m meth c b L xs) (hL : L ≤ 3072) (hi : i + 6 ≤ L) (hk : zk h x = 9) (S : St l w x T0 k h mX9_kind mX10_kind [.int (xs (nI (i + 1)).toNatClampNeg), .int (xs (nI (i + 2)).toNatClampNeg)]) (A : zAt w mLw s h H [(3, .int (nI i)), (0, .ref b), (1, .ref x), (2, .ref (x + 333))] ls locs x0 t0) (rm : ∀ h2, RLa x T0 h2 (k + 1) → zx h2 ≤ x0 + 600000 ∧ zt h2 ≤ t0 + 7302250)
    (nx : ∀ h2 H2 locs2, RLa x T0 h2 (k + 1) → zAt w mLw s h2 H2 [(3, .int (nI i)), (0, .ref b), (1, .ref x), (2, .ref (x + 333))] ls locs2 x0 t0 → W p l e room_1 s m #[Value.ref b] below meth c H2 locs2 (zx h2 - x0) (zt h2 - t0) (lw_Z below #[Value.ref b] s) (F0 m 1195 ls [])) : W p l e room_1 s m #[Value.ref b] below meth c H locs (zx h - x0) (zt h - t0) (lw_Z below #[Value.ref b] s) (F0 m 803 ls []) := by
  obtain ⟨⟨hx, hb, -, -, -, -⟩, ⟨hX, hbl⟩, hw, -⟩ := id C
  have hbA : ¬ (fun q : Nat => s.heap.size ≤ q) b := Nat.not_le.mpr hbl
  have hS := lw_S hw A
  have hl := A.2.2.2.1
  obtain ⟨a, h1, h2, c1, c2, km, R2⟩ := S
  have rm2 := rm h2 R2
  have d1 := c1.1
  have d2 := c1.2.1
  have d3 := c2.1
  have d4 := c2.2.1
  refine lv_aload_n hx hb dL_law_803 rfl (lv_at hl 2 rfl) ?_
  refine lv_aload_n hx hb dL_law_804 rfl (lv_at hl 1 rfl) ?_
  refine lv_iload_n hx hb dL_law_805 rfl (lv_at hl 0 rfl) ?_
  refine lv_iconst (v := nI 1) hx hb dL_law_806 (by decide) ?_
  refine lv_iadd hx hb dL_law_807 ?_
  rw [nI_add i 1]
  refine va_sld hx hb hX hbl hbA hS (vp_in_nI (by omega) (by omega)) dL_law_808 ?_
  refine lv_aload_n hx hb dL_law_809 rfl (lv_at hl 1 rfl) ?_
  refine lv_iload_n hx hb dL_law_810 rfl (lv_at hl 0 rfl) ?_
  refine lv_iconst (v := nI 2) hx hb dL_law_811 (by decide) ?_
  refine lv_iadd hx hb dL_law_812 ?_
  rw [nI_add i 2]
  refine va_sld hx hb hX hbl hbA hS (vp_in_nI (by omega) (by omega)) dL_law_813 ?_
  refine lw_invv (M' := mX9_kind) (As := [.int (xs (nI (i + 1)).toNatClampNeg), .int (xs (nI (i + 2)).toNatClampNeg)]) (rest := []) C dL_law_814 ml_L_95 okX9_kind imX9_kind seX9_kind ⟨(Nat.le_of_ble_eq_true rfl), (Nat.le_of_ble_eq_true rfl)⟩ (ci := 9) rfl rfl hk rfl rfl (Nat.le_of_ble_eq_true rfl) c1 (by omega) (by omega) A (fun H1 locs1 A1 => ?_)
  have hS1 := lw_S C.2.2.1 A1
  refine lv_aload_n hx hb dL_law_817 rfl (lv_at hl 3 rfl) ?_
  refine lv_aload_n hx hb dL_law_818 rfl (lv_at hl 1 rfl) ?_
  refine lv_iload_n hx hb dL_law_819 rfl (lv_at hl 0 rfl) ?_
  refine lv_iconst (v := nI 1) hx hb dL_law_820 (by decide) ?_
  refine lv_iadd hx hb dL_law_821 ?_
  rw [nI_add i 1]
  refine va_sld hx hb hX hbl hbA hS1 (vp_in_nI (by omega) (by omega)) dL_law_822 ?_
  refine lv_aload_n hx hb dL_law_823 rfl (lv_at hl 1 rfl) ?_
  refine lv_iload_n hx hb dL_law_824 rfl (lv_at hl 0 rfl) ?_
  refine lv_iconst (v := nI 2) hx hb dL_law_825 (by decide) ?_
  refine lv_iadd hx hb dL_law_826 ?_
  rw [nI_add i 2]
  refine va_sld hx hb hX hbl hbA hS1 (vp_in_nI (by omega) (by omega)) dL_law_827 ?_
  refine lw_invv (M' := mX10_kind) (As := [.int (xs (nI (i + 1)).toNatClampNeg), .int (xs (nI (i + 2)).toNatClampNeg)]) (rest := [.int a]) C dL_law_828 ml_L_98 okX10_kind imX10_kind seX10_kind ⟨(Nat.le_of_ble_eq_true rfl), (Nat.le_of_ble_eq_true rfl)⟩ (ci := 10) rfl rfl km rfl rfl (Nat.le_of_ble_eq_true rfl) c2 (by omega) (by omega) A1 (fun H2 locs2 A2 => ?_)
  have hS2 := lw_S C.2.2.1 A2
  exact lv_icmp_eq (tgt := 1195) hx hb dL_law_831 (by decide) (fun _ => nx h2 H2 locs2 R2 A2) (fun q => absurd rfl q)
set_option maxHeartbeats 1000000 in
theorem lw_case_20 (C : LawC p w s m meth c b L xs) (hL : L ≤ 3072) (hi : i + 6 ≤ L) (hk : zk h x = 9) (S : St l w x T0 k h mX9_detour mX10_detour [.int (xs (nI (i + 1)).toNatClampNeg), .int (xs (nI (i + 2)).toNatClampNeg), .int (xs (nI (i + 3)).toNatClampNeg)]) (A : zAt w mLw s h H [(3, .int (nI i)), (0, .ref b), (1, .ref x), (2, .ref (x + 333))] ls locs x0 t0) (rm : ∀ h2, RLa x T0 h2 (k + 1) → zx h2 ≤ x0 + 600000 ∧ zt h2 ≤ t0 + 7302250)
    (nx : ∀ h2 H2 locs2, RLa x T0 h2 (k + 1) → zAt w mLw s h2 H2 [(3, .int (nI i)), (0, .ref b), (1, .ref x), (2, .ref (x + 333))] ls locs2 x0 t0 → W p l e room_1 s m #[Value.ref b] below meth c H2 locs2 (zx h2 - x0) (zt h2 - t0) (lw_Z below #[Value.ref b] s) (F0 m 1195 ls [])) : W p l e room_1 s m #[Value.ref b] below meth c H locs (zx h - x0) (zt h - t0) (lw_Z below #[Value.ref b] s) (F0 m 836 ls []) := by
  obtain ⟨⟨hx, hb, -, -, -, -⟩, ⟨hX, hbl⟩, hw, -⟩ := id C
  have hbA : ¬ (fun q : Nat => s.heap.size ≤ q) b := Nat.not_le.mpr hbl
  have hS := lw_S hw A
  have hl := A.2.2.2.1
  obtain ⟨a, h1, h2, c1, c2, km, R2⟩ := S
  have rm2 := rm h2 R2
  have d1 := c1.1
  have d2 := c1.2.1
  have d3 := c2.1
  have d4 := c2.2.1
  refine lv_aload_n hx hb dL_law_836 rfl (lv_at hl 2 rfl) ?_
  refine lv_aload_n hx hb dL_law_837 rfl (lv_at hl 1 rfl) ?_
  refine lv_iload_n hx hb dL_law_838 rfl (lv_at hl 0 rfl) ?_
  refine lv_iconst (v := nI 1) hx hb dL_law_839 (by decide) ?_
  refine lv_iadd hx hb dL_law_840 ?_
  rw [nI_add i 1]
  refine va_sld hx hb hX hbl hbA hS (vp_in_nI (by omega) (by omega)) dL_law_841 ?_
  refine lv_aload_n hx hb dL_law_842 rfl (lv_at hl 1 rfl) ?_
  refine lv_iload_n hx hb dL_law_843 rfl (lv_at hl 0 rfl) ?_
  refine lv_iconst (v := nI 2) hx hb dL_law_844 (by decide) ?_
  refine lv_iadd hx hb dL_law_845 ?_
  rw [nI_add i 2]
  refine va_sld hx hb hX hbl hbA hS (vp_in_nI (by omega) (by omega)) dL_law_846 ?_
  refine lv_aload_n hx hb dL_law_847 rfl (lv_at hl 1 rfl) ?_
  refine lv_iload_n hx hb dL_law_848 rfl (lv_at hl 0 rfl) ?_
  refine lv_iconst (v := nI 3) hx hb dL_law_849 (by decide) ?_
  refine lv_iadd hx hb dL_law_850 ?_
  rw [nI_add i 3]
  refine va_sld hx hb hX hbl hbA hS (vp_in_nI (by omega) (by omega)) dL_law_851 ?_
  refine lw_invv (M' := mX9_detour) (As := [.int (xs (nI (i + 1)).toNatClampNeg), .int (xs (nI (i + 2)).toNatClampNeg), .int (xs (nI (i + 3)).toNatClampNeg)]) (rest := []) C dL_law_852 ml_L_99 okX9_detour imX9_detour seX9_detour ⟨(Nat.le_of_ble_eq_true rfl), (Nat.le_of_ble_eq_true rfl)⟩ (ci := 9) rfl rfl hk rfl rfl (Nat.le_of_ble_eq_true rfl) c1 (by omega) (by omega) A (fun H1 locs1 A1 => ?_)
  have hS1 := lw_S C.2.2.1 A1
  refine lv_aload_n hx hb dL_law_855 rfl (lv_at hl 3 rfl) ?_
  refine lv_aload_n hx hb dL_law_856 rfl (lv_at hl 1 rfl) ?_
  refine lv_iload_n hx hb dL_law_857 rfl (lv_at hl 0 rfl) ?_
  refine lv_iconst (v := nI 1) hx hb dL_law_858 (by decide) ?_
  refine lv_iadd hx hb dL_law_859 ?_
  rw [nI_add i 1]
  refine va_sld hx hb hX hbl hbA hS1 (vp_in_nI (by omega) (by omega)) dL_law_860 ?_
  refine lv_aload_n hx hb dL_law_861 rfl (lv_at hl 1 rfl) ?_
  refine lv_iload_n hx hb dL_law_862 rfl (lv_at hl 0 rfl) ?_
  refine lv_iconst (v := nI 2) hx hb dL_law_863 (by decide) ?_
  refine lv_iadd hx hb dL_law_864 ?_
  rw [nI_add i 2]
  refine va_sld hx hb hX hbl hbA hS1 (vp_in_nI (by omega) (by omega)) dL_law_865 ?_
  refine lv_aload_n hx hb dL_law_866 rfl (lv_at hl 1 rfl) ?_
  refine lv_iload_n hx hb dL_law_867 rfl (lv_at hl 0 rfl) ?_
  refine lv_iconst (v := nI 3) hx hb dL_law_868 (by decide) ?_
  refine lv_iadd hx hb dL_law_869 ?_
  rw [nI_add i 3]
  refine va_sld hx hb hX hbl hbA hS1 (vp_in_nI (by omega) (by omega)) dL_law_870 ?_
  refine lw_invv (M' := mX10_detour) (As := [.int (xs (nI (i + 1)).toNatClampNeg), .int (xs (nI (i + 2)).toNatClampNeg), .int (xs (nI (i + 3)).toNatClampNeg)]) (rest := [.int a]) C dL_law_871 ml_L_102 okX10_detour imX10_detour seX10_detour ⟨(Nat.le_of_ble_eq_true rfl), (Nat.le_of_ble_eq_true rfl)⟩ (ci := 10) rfl rfl km rfl rfl (Nat.le_of_ble_eq_true rfl) c2 (by omega) (by omega) A1 (fun H2 locs2 A2 => ?_)
  have hS2 := lw_S C.2.2.1 A2
  exact lv_icmp_eq (tgt := 1195) hx hb dL_law_874 (by decide) (fun _ => nx h2 H2 locs2 R2 A2) (fun q => absurd rfl q)
set_option maxHeartbeats 1000000 in
theorem lw_case_21 (C : LawC p w s m meth c b L xs) (hL : L ≤ 3072) (hi : i + 6 ≤ L) (hk : zk h x = 9) (S : St l w x T0 k h mX9_tick mX10_tick [.int (xs (nI (i + 1)).toNatClampNeg)]) (A : zAt w mLw s h H [(3, .int (nI i)), (0, .ref b), (1, .ref x), (2, .ref (x + 333))] ls locs x0 t0) (rm : ∀ h2, RLa x T0 h2 (k + 1) → zx h2 ≤ x0 + 600000 ∧ zt h2 ≤ t0 + 7302250)
    (nx : ∀ h2 H2 locs2, RLa x T0 h2 (k + 1) → zAt w mLw s h2 H2 [(3, .int (nI i)), (0, .ref b), (1, .ref x), (2, .ref (x + 333))] ls locs2 x0 t0 → W p l e room_1 s m #[Value.ref b] below meth c H2 locs2 (zx h2 - x0) (zt h2 - t0) (lw_Z below #[Value.ref b] s) (F0 m 1195 ls [])) : W p l e room_1 s m #[Value.ref b] below meth c H locs (zx h - x0) (zt h - t0) (lw_Z below #[Value.ref b] s) (F0 m 879 ls []) := by
  obtain ⟨⟨hx, hb, -, -, -, -⟩, ⟨hX, hbl⟩, hw, -⟩ := id C
  have hbA : ¬ (fun q : Nat => s.heap.size ≤ q) b := Nat.not_le.mpr hbl
  have hS := lw_S hw A
  have hl := A.2.2.2.1
  obtain ⟨a, h1, h2, c1, c2, km, R2⟩ := S
  have rm2 := rm h2 R2
  have d1 := c1.1
  have d2 := c1.2.1
  have d3 := c2.1
  have d4 := c2.2.1
  refine lv_aload_n hx hb dL_law_879 rfl (lv_at hl 2 rfl) ?_
  refine lv_aload_n hx hb dL_law_880 rfl (lv_at hl 1 rfl) ?_
  refine lv_iload_n hx hb dL_law_881 rfl (lv_at hl 0 rfl) ?_
  refine lv_iconst (v := nI 1) hx hb dL_law_882 (by decide) ?_
  refine lv_iadd hx hb dL_law_883 ?_
  rw [nI_add i 1]
  refine va_sld hx hb hX hbl hbA hS (vp_in_nI (by omega) (by omega)) dL_law_884 ?_
  refine lw_invv (M' := mX9_tick) (As := [.int (xs (nI (i + 1)).toNatClampNeg)]) (rest := []) C dL_law_885 ml_L_103 okX9_tick imX9_tick seX9_tick ⟨(Nat.le_of_ble_eq_true rfl), (Nat.le_of_ble_eq_true rfl)⟩ (ci := 9) rfl rfl hk rfl rfl (Nat.le_of_ble_eq_true rfl) c1 (by omega) (by omega) A (fun H1 locs1 A1 => ?_)
  have hS1 := lw_S C.2.2.1 A1
  refine lv_aload_n hx hb dL_law_888 rfl (lv_at hl 3 rfl) ?_
  refine lv_aload_n hx hb dL_law_889 rfl (lv_at hl 1 rfl) ?_
  refine lv_iload_n hx hb dL_law_890 rfl (lv_at hl 0 rfl) ?_
  refine lv_iconst (v := nI 1) hx hb dL_law_891 (by decide) ?_
  refine lv_iadd hx hb dL_law_892 ?_
  rw [nI_add i 1]
  refine va_sld hx hb hX hbl hbA hS1 (vp_in_nI (by omega) (by omega)) dL_law_893 ?_
  refine lw_invv (M' := mX10_tick) (As := [.int (xs (nI (i + 1)).toNatClampNeg)]) (rest := [.int a]) C dL_law_894 ml_L_106 okX10_tick imX10_tick seX10_tick ⟨(Nat.le_of_ble_eq_true rfl), (Nat.le_of_ble_eq_true rfl)⟩ (ci := 10) rfl rfl km rfl rfl (Nat.le_of_ble_eq_true rfl) c2 (by omega) (by omega) A1 (fun H2 locs2 A2 => ?_)
  have hS2 := lw_S C.2.2.1 A2
  exact lv_icmp_eq (tgt := 1195) hx hb dL_law_897 (by decide) (fun _ => nx h2 H2 locs2 R2 A2) (fun q => absurd rfl q)
set_option maxHeartbeats 1000000 in
theorem lw_case_22 (C : LawC p w s m meth c b L xs) (hL : L ≤ 3072) (hi : i + 6 ≤ L) (hk : zk h x = 9) (S : St l w x T0 k h mX9_mark mX10_mark []) (A : zAt w mLw s h H [(3, .int (nI i)), (0, .ref b), (1, .ref x), (2, .ref (x + 333))] ls locs x0 t0) (rm : ∀ h2, RLa x T0 h2 (k + 1) → zx h2 ≤ x0 + 600000 ∧ zt h2 ≤ t0 + 7302250)
    (nx : ∀ h2 H2 locs2, RLa x T0 h2 (k + 1) → zAt w mLw s h2 H2 [(3, .int (nI i)), (0, .ref b), (1, .ref x), (2, .ref (x + 333))] ls locs2 x0 t0 → W p l e room_1 s m #[Value.ref b] below meth c H2 locs2 (zx h2 - x0) (zt h2 - t0) (lw_Z below #[Value.ref b] s) (F0 m 1195 ls [])) : W p l e room_1 s m #[Value.ref b] below meth c H locs (zx h - x0) (zt h - t0) (lw_Z below #[Value.ref b] s) (F0 m 902 ls []) := by
  obtain ⟨⟨hx, hb, -, -, -, -⟩, ⟨hX, hbl⟩, hw, -⟩ := id C
  have hbA : ¬ (fun q : Nat => s.heap.size ≤ q) b := Nat.not_le.mpr hbl
  have hS := lw_S hw A
  have hl := A.2.2.2.1
  obtain ⟨a, h1, h2, c1, c2, km, R2⟩ := S
  have rm2 := rm h2 R2
  have d1 := c1.1
  have d2 := c1.2.1
  have d3 := c2.1
  have d4 := c2.2.1
  refine lv_aload_n hx hb dL_law_902 rfl (lv_at hl 2 rfl) ?_
  refine lw_invv (M' := mX9_mark) (As := []) (rest := []) C dL_law_903 ml_L_107 okX9_mark imX9_mark seX9_mark ⟨(Nat.le_of_ble_eq_true rfl), (Nat.le_of_ble_eq_true rfl)⟩ (ci := 9) rfl rfl hk rfl rfl (Nat.le_of_ble_eq_true rfl) c1 (by omega) (by omega) A (fun H1 locs1 A1 => ?_)
  have hS1 := lw_S C.2.2.1 A1
  refine lv_aload_n hx hb dL_law_906 rfl (lv_at hl 3 rfl) ?_
  refine lw_invv (M' := mX10_mark) (As := []) (rest := [.int a]) C dL_law_907 ml_L_110 okX10_mark imX10_mark seX10_mark ⟨(Nat.le_of_ble_eq_true rfl), (Nat.le_of_ble_eq_true rfl)⟩ (ci := 10) rfl rfl km rfl rfl (Nat.le_of_ble_eq_true rfl) c2 (by omega) (by omega) A1 (fun H2 locs2 A2 => ?_)
  have hS2 := lw_S C.2.2.1 A2
  exact lv_icmp_eq (tgt := 1195) hx hb dL_law_910 (by decide) (fun _ => nx h2 H2 locs2 R2 A2) (fun q => absurd rfl q)
set_option maxHeartbeats 1000000 in
theorem lw_case_23 (C : LawC p w s m meth c b L xs) (hL : L ≤ 3072) (hi : i + 6 ≤ L) (hk : zk h x = 9) (S : St l w x T0 k h mX9_back mX10_back []) (A : zAt w mLw s h H [(3, .int (nI i)), (0, .ref b), (1, .ref x), (2, .ref (x + 333))] ls locs x0 t0) (rm : ∀ h2, RLa x T0 h2 (k + 1) → zx h2 ≤ x0 + 600000 ∧ zt h2 ≤ t0 + 7302250)
    (nx : ∀ h2 H2 locs2, RLa x T0 h2 (k + 1) → zAt w mLw s h2 H2 [(3, .int (nI i)), (0, .ref b), (1, .ref x), (2, .ref (x + 333))] ls locs2 x0 t0 → W p l e room_1 s m #[Value.ref b] below meth c H2 locs2 (zx h2 - x0) (zt h2 - t0) (lw_Z below #[Value.ref b] s) (F0 m 1195 ls [])) : W p l e room_1 s m #[Value.ref b] below meth c H locs (zx h - x0) (zt h - t0) (lw_Z below #[Value.ref b] s) (F0 m 915 ls []) := by
  obtain ⟨⟨hx, hb, -, -, -, -⟩, ⟨hX, hbl⟩, hw, -⟩ := id C
  have hbA : ¬ (fun q : Nat => s.heap.size ≤ q) b := Nat.not_le.mpr hbl
  have hS := lw_S hw A
  have hl := A.2.2.2.1
  obtain ⟨a, h1, h2, c1, c2, km, R2⟩ := S
  have rm2 := rm h2 R2
  have d1 := c1.1
  have d2 := c1.2.1
  have d3 := c2.1
  have d4 := c2.2.1
  refine lv_aload_n hx hb dL_law_915 rfl (lv_at hl 2 rfl) ?_
  refine lw_invv (M' := mX9_back) (As := []) (rest := []) C dL_law_916 ml_L_111 okX9_back imX9_back seX9_back ⟨(Nat.le_of_ble_eq_true rfl), (Nat.le_of_ble_eq_true rfl)⟩ (ci := 9) rfl rfl hk rfl rfl (Nat.le_of_ble_eq_true rfl) c1 (by omega) (by omega) A (fun H1 locs1 A1 => ?_)
  have hS1 := lw_S C.2.2.1 A1
  refine lv_aload_n hx hb dL_law_919 rfl (lv_at hl 3 rfl) ?_
  refine lw_invv (M' := mX10_back) (As := []) (rest := [.int a]) C dL_law_920 ml_L_114 okX10_back imX10_back seX10_back ⟨(Nat.le_of_ble_eq_true rfl), (Nat.le_of_ble_eq_true rfl)⟩ (ci := 10) rfl rfl km rfl rfl (Nat.le_of_ble_eq_true rfl) c2 (by omega) (by omega) A1 (fun H2 locs2 A2 => ?_)
  have hS2 := lw_S C.2.2.1 A2
  exact lv_icmp_eq (tgt := 1195) hx hb dL_law_923 (by decide) (fun _ => nx h2 H2 locs2 R2 A2) (fun q => absurd rfl q)
set_option maxHeartbeats 1000000 in
theorem lw_case_24 (C : LawC p w s m meth c b L xs) (hL : L ≤ 3072) (hi : i + 6 ≤ L) (hk : zk h x = 9) (S : St l w x T0 k h mX9_best mX10_best [.int (xs (nI (i + 1)).toNatClampNeg)]) (A : zAt w mLw s h H [(3, .int (nI i)), (0, .ref b), (1, .ref x), (2, .ref (x + 333))] ls locs x0 t0) (rm : ∀ h2, RLa x T0 h2 (k + 1) → zx h2 ≤ x0 + 600000 ∧ zt h2 ≤ t0 + 7302250)
    (nx : ∀ h2 H2 locs2, RLa x T0 h2 (k + 1) → zAt w mLw s h2 H2 [(3, .int (nI i)), (0, .ref b), (1, .ref x), (2, .ref (x + 333))] ls locs2 x0 t0 → W p l e room_1 s m #[Value.ref b] below meth c H2 locs2 (zx h2 - x0) (zt h2 - t0) (lw_Z below #[Value.ref b] s) (F0 m 1195 ls [])) : W p l e room_1 s m #[Value.ref b] below meth c H locs (zx h - x0) (zt h - t0) (lw_Z below #[Value.ref b] s) (F0 m 928 ls []) := by
  obtain ⟨⟨hx, hb, -, -, -, -⟩, ⟨hX, hbl⟩, hw, -⟩ := id C
  have hbA : ¬ (fun q : Nat => s.heap.size ≤ q) b := Nat.not_le.mpr hbl
  have hS := lw_S hw A
  have hl := A.2.2.2.1
  obtain ⟨a, h1, h2, c1, c2, km, R2⟩ := S
  have rm2 := rm h2 R2
  have d1 := c1.1
  have d2 := c1.2.1
  have d3 := c2.1
  have d4 := c2.2.1
  refine lv_aload_n hx hb dL_law_928 rfl (lv_at hl 2 rfl) ?_
  refine lv_aload_n hx hb dL_law_929 rfl (lv_at hl 1 rfl) ?_
  refine lv_iload_n hx hb dL_law_930 rfl (lv_at hl 0 rfl) ?_
  refine lv_iconst (v := nI 1) hx hb dL_law_931 (by decide) ?_
  refine lv_iadd hx hb dL_law_932 ?_
  rw [nI_add i 1]
  refine va_sld hx hb hX hbl hbA hS (vp_in_nI (by omega) (by omega)) dL_law_933 ?_
  refine lw_invv (M' := mX9_best) (As := [.int (xs (nI (i + 1)).toNatClampNeg)]) (rest := []) C dL_law_934 ml_L_115 okX9_best imX9_best seX9_best ⟨(Nat.le_of_ble_eq_true rfl), (Nat.le_of_ble_eq_true rfl)⟩ (ci := 9) rfl rfl hk rfl rfl (Nat.le_of_ble_eq_true rfl) c1 (by omega) (by omega) A (fun H1 locs1 A1 => ?_)
  have hS1 := lw_S C.2.2.1 A1
  refine lv_aload_n hx hb dL_law_937 rfl (lv_at hl 3 rfl) ?_
  refine lv_aload_n hx hb dL_law_938 rfl (lv_at hl 1 rfl) ?_
  refine lv_iload_n hx hb dL_law_939 rfl (lv_at hl 0 rfl) ?_
  refine lv_iconst (v := nI 1) hx hb dL_law_940 (by decide) ?_
  refine lv_iadd hx hb dL_law_941 ?_
  rw [nI_add i 1]
  refine va_sld hx hb hX hbl hbA hS1 (vp_in_nI (by omega) (by omega)) dL_law_942 ?_
  refine lw_invv (M' := mX10_best) (As := [.int (xs (nI (i + 1)).toNatClampNeg)]) (rest := [.int a]) C dL_law_943 ml_L_118 okX10_best imX10_best seX10_best ⟨(Nat.le_of_ble_eq_true rfl), (Nat.le_of_ble_eq_true rfl)⟩ (ci := 10) rfl rfl km rfl rfl (Nat.le_of_ble_eq_true rfl) c2 (by omega) (by omega) A1 (fun H2 locs2 A2 => ?_)
  have hS2 := lw_S C.2.2.1 A2
  exact lv_icmp_eq (tgt := 1195) hx hb dL_law_946 (by decide) (fun _ => nx h2 H2 locs2 R2 A2) (fun q => absurd rfl q)
set_option maxHeartbeats 1000000 in
theorem lw_case_25 (C : LawC p w s m meth c b L xs) (hL : L ≤ 3072) (hi : i + 6 ≤ L) (hk : zk h x = 9) (S : St l w x T0 k h mX9_neck mX10_neck [.int (xs (nI (i + 1)).toNatClampNeg)]) (A : zAt w mLw s h H [(3, .int (nI i)), (0, .ref b), (1, .ref x), (2, .ref (x + 333))] ls locs x0 t0) (rm : ∀ h2, RLa x T0 h2 (k + 1) → zx h2 ≤ x0 + 600000 ∧ zt h2 ≤ t0 + 7302250)
    (nx : ∀ h2 H2 locs2, RLa x T0 h2 (k + 1) → zAt w mLw s h2 H2 [(3, .int (nI i)), (0, .ref b), (1, .ref x), (2, .ref (x + 333))] ls locs2 x0 t0 → W p l e room_1 s m #[Value.ref b] below meth c H2 locs2 (zx h2 - x0) (zt h2 - t0) (lw_Z below #[Value.ref b] s) (F0 m 1195 ls [])) : W p l e room_1 s m #[Value.ref b] below meth c H locs (zx h - x0) (zt h - t0) (lw_Z below #[Value.ref b] s) (F0 m 951 ls []) := by
  obtain ⟨⟨hx, hb, -, -, -, -⟩, ⟨hX, hbl⟩, hw, -⟩ := id C
  have hbA : ¬ (fun q : Nat => s.heap.size ≤ q) b := Nat.not_le.mpr hbl
  have hS := lw_S hw A
  have hl := A.2.2.2.1
  obtain ⟨a, h1, h2, c1, c2, km, R2⟩ := S
  have rm2 := rm h2 R2
  have d1 := c1.1
  have d2 := c1.2.1
  have d3 := c2.1
  have d4 := c2.2.1
  refine lv_aload_n hx hb dL_law_951 rfl (lv_at hl 2 rfl) ?_
  refine lv_aload_n hx hb dL_law_952 rfl (lv_at hl 1 rfl) ?_
  refine lv_iload_n hx hb dL_law_953 rfl (lv_at hl 0 rfl) ?_
  refine lv_iconst (v := nI 1) hx hb dL_law_954 (by decide) ?_
  refine lv_iadd hx hb dL_law_955 ?_
  rw [nI_add i 1]
  refine va_sld hx hb hX hbl hbA hS (vp_in_nI (by omega) (by omega)) dL_law_956 ?_
  refine lw_invv (M' := mX9_neck) (As := [.int (xs (nI (i + 1)).toNatClampNeg)]) (rest := []) C dL_law_957 ml_L_119 okX9_neck imX9_neck seX9_neck ⟨(Nat.le_of_ble_eq_true rfl), (Nat.le_of_ble_eq_true rfl)⟩ (ci := 9) rfl rfl hk rfl rfl (Nat.le_of_ble_eq_true rfl) c1 (by omega) (by omega) A (fun H1 locs1 A1 => ?_)
  have hS1 := lw_S C.2.2.1 A1
  refine lv_aload_n hx hb dL_law_960 rfl (lv_at hl 3 rfl) ?_
  refine lv_aload_n hx hb dL_law_961 rfl (lv_at hl 1 rfl) ?_
  refine lv_iload_n hx hb dL_law_962 rfl (lv_at hl 0 rfl) ?_
  refine lv_iconst (v := nI 1) hx hb dL_law_963 (by decide) ?_
  refine lv_iadd hx hb dL_law_964 ?_
  rw [nI_add i 1]
  refine va_sld hx hb hX hbl hbA hS1 (vp_in_nI (by omega) (by omega)) dL_law_965 ?_
  refine lw_invv (M' := mX10_neck) (As := [.int (xs (nI (i + 1)).toNatClampNeg)]) (rest := [.int a]) C dL_law_966 ml_L_122 okX10_neck imX10_neck seX10_neck ⟨(Nat.le_of_ble_eq_true rfl), (Nat.le_of_ble_eq_true rfl)⟩ (ci := 10) rfl rfl km rfl rfl (Nat.le_of_ble_eq_true rfl) c2 (by omega) (by omega) A1 (fun H2 locs2 A2 => ?_)
  have hS2 := lw_S C.2.2.1 A2
  exact lv_icmp_eq (tgt := 1195) hx hb dL_law_969 (by decide) (fun _ => nx h2 H2 locs2 R2 A2) (fun q => absurd rfl q)
set_option maxHeartbeats 1000000 in
theorem lw_case_26 (C : LawC p w s m meth c b L xs) (hL : L ≤ 3072) (hi : i + 6 ≤ L) (hk : zk h x = 9) (S : St l w x T0 k h mX9_when mX10_when [.int (xs (nI (i + 1)).toNatClampNeg)]) (A : zAt w mLw s h H [(3, .int (nI i)), (0, .ref b), (1, .ref x), (2, .ref (x + 333))] ls locs x0 t0) (rm : ∀ h2, RLa x T0 h2 (k + 1) → zx h2 ≤ x0 + 600000 ∧ zt h2 ≤ t0 + 7302250)
    (nx : ∀ h2 H2 locs2, RLa x T0 h2 (k + 1) → zAt w mLw s h2 H2 [(3, .int (nI i)), (0, .ref b), (1, .ref x), (2, .ref (x + 333))] ls locs2 x0 t0 → W p l e room_1 s m #[Value.ref b] below meth c H2 locs2 (zx h2 - x0) (zt h2 - t0) (lw_Z below #[Value.ref b] s) (F0 m 1195 ls [])) : W p l e room_1 s m #[Value.ref b] below meth c H locs (zx h - x0) (zt h - t0) (lw_Z below #[Value.ref b] s) (F0 m 974 ls []) := by
  obtain ⟨⟨hx, hb, -, -, -, -⟩, ⟨hX, hbl⟩, hw, -⟩ := id C
  have hbA : ¬ (fun q : Nat => s.heap.size ≤ q) b := Nat.not_le.mpr hbl
  have hS := lw_S hw A
  have hl := A.2.2.2.1
  obtain ⟨a, h1, h2, c1, c2, km, R2⟩ := S
  have rm2 := rm h2 R2
  have d1 := c1.1
  have d2 := c1.2.1
  have d3 := c2.1
  have d4 := c2.2.1
  refine lv_aload_n hx hb dL_law_974 rfl (lv_at hl 2 rfl) ?_
  refine lv_aload_n hx hb dL_law_975 rfl (lv_at hl 1 rfl) ?_
  refine lv_iload_n hx hb dL_law_976 rfl (lv_at hl 0 rfl) ?_
  refine lv_iconst (v := nI 1) hx hb dL_law_977 (by decide) ?_
  refine lv_iadd hx hb dL_law_978 ?_
  rw [nI_add i 1]
  refine va_sld hx hb hX hbl hbA hS (vp_in_nI (by omega) (by omega)) dL_law_979 ?_
  refine lw_invv (M' := mX9_when) (As := [.int (xs (nI (i + 1)).toNatClampNeg)]) (rest := []) C dL_law_980 ml_L_123 okX9_when imX9_when seX9_when ⟨(Nat.le_of_ble_eq_true rfl), (Nat.le_of_ble_eq_true rfl)⟩ (ci := 9) rfl rfl hk rfl rfl (Nat.le_of_ble_eq_true rfl) c1 (by omega) (by omega) A (fun H1 locs1 A1 => ?_)
  have hS1 := lw_S C.2.2.1 A1
  refine lv_aload_n hx hb dL_law_983 rfl (lv_at hl 3 rfl) ?_
  refine lv_aload_n hx hb dL_law_984 rfl (lv_at hl 1 rfl) ?_
  refine lv_iload_n hx hb dL_law_985 rfl (lv_at hl 0 rfl) ?_
  refine lv_iconst (v := nI 1) hx hb dL_law_986 (by decide) ?_
  refine lv_iadd hx hb dL_law_987 ?_
  rw [nI_add i 1]
  refine va_sld hx hb hX hbl hbA hS1 (vp_in_nI (by omega) (by omega)) dL_law_988 ?_
  refine lw_invv (M' := mX10_when) (As := [.int (xs (nI (i + 1)).toNatClampNeg)]) (rest := [.int a]) C dL_law_989 ml_L_126 okX10_when imX10_when seX10_when ⟨(Nat.le_of_ble_eq_true rfl), (Nat.le_of_ble_eq_true rfl)⟩ (ci := 10) rfl rfl km rfl rfl (Nat.le_of_ble_eq_true rfl) c2 (by omega) (by omega) A1 (fun H2 locs2 A2 => ?_)
  have hS2 := lw_S C.2.2.1 A2
  exact lv_icmp_eq (tgt := 1195) hx hb dL_law_992 (by decide) (fun _ => nx h2 H2 locs2 R2 A2) (fun q => absurd rfl q)
set_option maxHeartbeats 1000000 in
theorem lw_case_27 (C : LawC p w s m meth c b L xs) (hL : L ≤ 3072) (hi : i + 6 ≤ L) (hk : zk h x = 9) (S : St l w x T0 k h mX9_closes mX10_closes [.int (xs (nI (i + 1)).toNatClampNeg)]) (A : zAt w mLw s h H [(3, .int (nI i)), (0, .ref b), (1, .ref x), (2, .ref (x + 333))] ls locs x0 t0) (rm : ∀ h2, RLa x T0 h2 (k + 1) → zx h2 ≤ x0 + 600000 ∧ zt h2 ≤ t0 + 7302250)
    (nx : ∀ h2 H2 locs2, RLa x T0 h2 (k + 1) → zAt w mLw s h2 H2 [(3, .int (nI i)), (0, .ref b), (1, .ref x), (2, .ref (x + 333))] ls locs2 x0 t0 → W p l e room_1 s m #[Value.ref b] below meth c H2 locs2 (zx h2 - x0) (zt h2 - t0) (lw_Z below #[Value.ref b] s) (F0 m 1195 ls [])) : W p l e room_1 s m #[Value.ref b] below meth c H locs (zx h - x0) (zt h - t0) (lw_Z below #[Value.ref b] s) (F0 m 997 ls []) := by
  obtain ⟨⟨hx, hb, -, -, -, -⟩, ⟨hX, hbl⟩, hw, -⟩ := id C
  have hbA : ¬ (fun q : Nat => s.heap.size ≤ q) b := Nat.not_le.mpr hbl
  have hS := lw_S hw A
  have hl := A.2.2.2.1
  obtain ⟨a, h1, h2, c1, c2, km, R2⟩ := S
  have rm2 := rm h2 R2
  have d1 := c1.1
  have d2 := c1.2.1
  have d3 := c2.1
  have d4 := c2.2.1
  refine lv_aload_n hx hb dL_law_997 rfl (lv_at hl 2 rfl) ?_
  refine lv_aload_n hx hb dL_law_998 rfl (lv_at hl 1 rfl) ?_
  refine lv_iload_n hx hb dL_law_999 rfl (lv_at hl 0 rfl) ?_
  refine lv_iconst (v := nI 1) hx hb dL_law_1000 (by decide) ?_
  refine lv_iadd hx hb dL_law_1001 ?_
  rw [nI_add i 1]
  refine va_sld hx hb hX hbl hbA hS (vp_in_nI (by omega) (by omega)) dL_law_1002 ?_
  refine lw_invv (M' := mX9_closes) (As := [.int (xs (nI (i + 1)).toNatClampNeg)]) (rest := []) C dL_law_1003 ml_L_127 okX9_closes imX9_closes seX9_closes ⟨(Nat.le_of_ble_eq_true rfl), (Nat.le_of_ble_eq_true rfl)⟩ (ci := 9) rfl rfl hk rfl rfl (Nat.le_of_ble_eq_true rfl) c1 (by omega) (by omega) A (fun H1 locs1 A1 => ?_)
  have hS1 := lw_S C.2.2.1 A1
  refine lv_aload_n hx hb dL_law_1006 rfl (lv_at hl 3 rfl) ?_
  refine lv_aload_n hx hb dL_law_1007 rfl (lv_at hl 1 rfl) ?_
  refine lv_iload_n hx hb dL_law_1008 rfl (lv_at hl 0 rfl) ?_
  refine lv_iconst (v := nI 1) hx hb dL_law_1009 (by decide) ?_
  refine lv_iadd hx hb dL_law_1010 ?_
  rw [nI_add i 1]
  refine va_sld hx hb hX hbl hbA hS1 (vp_in_nI (by omega) (by omega)) dL_law_1011 ?_
  refine lw_invv (M' := mX10_closes) (As := [.int (xs (nI (i + 1)).toNatClampNeg)]) (rest := [.int a]) C dL_law_1012 ml_L_130 okX10_closes imX10_closes seX10_closes ⟨(Nat.le_of_ble_eq_true rfl), (Nat.le_of_ble_eq_true rfl)⟩ (ci := 10) rfl rfl km rfl rfl (Nat.le_of_ble_eq_true rfl) c2 (by omega) (by omega) A1 (fun H2 locs2 A2 => ?_)
  have hS2 := lw_S C.2.2.1 A2
  exact lv_icmp_eq (tgt := 1195) hx hb dL_law_1015 (by decide) (fun _ => nx h2 H2 locs2 R2 A2) (fun q => absurd rfl q)
set_option maxHeartbeats 1000000 in
theorem lw_case_28 (C : LawC p w s m meth c b L xs) (hL : L ≤ 3072) (hi : i + 6 ≤ L) (hk : zk h x = 9) (S : St l w x T0 k h mX9_caught mX10_caught [.int (xs (nI (i + 1)).toNatClampNeg)]) (A : zAt w mLw s h H [(3, .int (nI i)), (0, .ref b), (1, .ref x), (2, .ref (x + 333))] ls locs x0 t0) (rm : ∀ h2, RLa x T0 h2 (k + 1) → zx h2 ≤ x0 + 600000 ∧ zt h2 ≤ t0 + 7302250)
    (nx : ∀ h2 H2 locs2, RLa x T0 h2 (k + 1) → zAt w mLw s h2 H2 [(3, .int (nI i)), (0, .ref b), (1, .ref x), (2, .ref (x + 333))] ls locs2 x0 t0 → W p l e room_1 s m #[Value.ref b] below meth c H2 locs2 (zx h2 - x0) (zt h2 - t0) (lw_Z below #[Value.ref b] s) (F0 m 1195 ls [])) : W p l e room_1 s m #[Value.ref b] below meth c H locs (zx h - x0) (zt h - t0) (lw_Z below #[Value.ref b] s) (F0 m 1020 ls []) := by
  obtain ⟨⟨hx, hb, -, -, -, -⟩, ⟨hX, hbl⟩, hw, -⟩ := id C
  have hbA : ¬ (fun q : Nat => s.heap.size ≤ q) b := Nat.not_le.mpr hbl
  have hS := lw_S hw A
  have hl := A.2.2.2.1
  obtain ⟨a, h1, h2, c1, c2, km, R2⟩ := S
  have rm2 := rm h2 R2
  have d1 := c1.1
  have d2 := c1.2.1
  have d3 := c2.1
  have d4 := c2.2.1
  refine lv_aload_n hx hb dL_law_1020 rfl (lv_at hl 2 rfl) ?_
  refine lv_aload_n hx hb dL_law_1021 rfl (lv_at hl 1 rfl) ?_
  refine lv_iload_n hx hb dL_law_1022 rfl (lv_at hl 0 rfl) ?_
  refine lv_iconst (v := nI 1) hx hb dL_law_1023 (by decide) ?_
  refine lv_iadd hx hb dL_law_1024 ?_
  rw [nI_add i 1]
  refine va_sld hx hb hX hbl hbA hS (vp_in_nI (by omega) (by omega)) dL_law_1025 ?_
  refine lw_invv (M' := mX9_caught) (As := [.int (xs (nI (i + 1)).toNatClampNeg)]) (rest := []) C dL_law_1026 ml_L_131 okX9_caught imX9_caught seX9_caught ⟨(Nat.le_of_ble_eq_true rfl), (Nat.le_of_ble_eq_true rfl)⟩ (ci := 9) rfl rfl hk rfl rfl (Nat.le_of_ble_eq_true rfl) c1 (by omega) (by omega) A (fun H1 locs1 A1 => ?_)
  have hS1 := lw_S C.2.2.1 A1
  refine lv_aload_n hx hb dL_law_1029 rfl (lv_at hl 3 rfl) ?_
  refine lv_aload_n hx hb dL_law_1030 rfl (lv_at hl 1 rfl) ?_
  refine lv_iload_n hx hb dL_law_1031 rfl (lv_at hl 0 rfl) ?_
  refine lv_iconst (v := nI 1) hx hb dL_law_1032 (by decide) ?_
  refine lv_iadd hx hb dL_law_1033 ?_
  rw [nI_add i 1]
  refine va_sld hx hb hX hbl hbA hS1 (vp_in_nI (by omega) (by omega)) dL_law_1034 ?_
  refine lw_invv (M' := mX10_caught) (As := [.int (xs (nI (i + 1)).toNatClampNeg)]) (rest := [.int a]) C dL_law_1035 ml_L_134 okX10_caught imX10_caught seX10_caught ⟨(Nat.le_of_ble_eq_true rfl), (Nat.le_of_ble_eq_true rfl)⟩ (ci := 10) rfl rfl km rfl rfl (Nat.le_of_ble_eq_true rfl) c2 (by omega) (by omega) A1 (fun H2 locs2 A2 => ?_)
  have hS2 := lw_S C.2.2.1 A2
  exact lv_icmp_eq (tgt := 1195) hx hb dL_law_1038 (by decide) (fun _ => nx h2 H2 locs2 R2 A2) (fun q => absurd rfl q)
set_option maxHeartbeats 1000000 in
theorem lw_case_29 (C : LawC p w s m meth c b L xs) (hL : L ≤ 3072) (hi : i + 6 ≤ L) (hk : zk h x = 9) (S : St l w x T0 k h mX9_after mX10_after [.int (xs (nI (i + 1)).toNatClampNeg), .int (xs (nI (i + 2)).toNatClampNeg)]) (A : zAt w mLw s h H [(3, .int (nI i)), (0, .ref b), (1, .ref x), (2, .ref (x + 333))] ls locs x0 t0) (rm : ∀ h2, RLa x T0 h2 (k + 1) → zx h2 ≤ x0 + 600000 ∧ zt h2 ≤ t0 + 7302250)
    (nx : ∀ h2 H2 locs2, RLa x T0 h2 (k + 1) → zAt w mLw s h2 H2 [(3, .int (nI i)), (0, .ref b), (1, .ref x), (2, .ref (x + 333))] ls locs2 x0 t0 → W p l e room_1 s m #[Value.ref b] below meth c H2 locs2 (zx h2 - x0) (zt h2 - t0) (lw_Z below #[Value.ref b] s) (F0 m 1195 ls [])) : W p l e room_1 s m #[Value.ref b] below meth c H locs (zx h - x0) (zt h - t0) (lw_Z below #[Value.ref b] s) (F0 m 1043 ls []) := by
  obtain ⟨⟨hx, hb, -, -, -, -⟩, ⟨hX, hbl⟩, hw, -⟩ := id C
  have hbA : ¬ (fun q : Nat => s.heap.size ≤ q) b := Nat.not_le.mpr hbl
  have hS := lw_S hw A
  have hl := A.2.2.2.1
  obtain ⟨a, h1, h2, c1, c2, km, R2⟩ := S
  have rm2 := rm h2 R2
  have d1 := c1.1
  have d2 := c1.2.1
  have d3 := c2.1
  have d4 := c2.2.1
  refine lv_aload_n hx hb dL_law_1043 rfl (lv_at hl 2 rfl) ?_
  refine lv_aload_n hx hb dL_law_1044 rfl (lv_at hl 1 rfl) ?_
  refine lv_iload_n hx hb dL_law_1045 rfl (lv_at hl 0 rfl) ?_
  refine lv_iconst (v := nI 1) hx hb dL_law_1046 (by decide) ?_
  refine lv_iadd hx hb dL_law_1047 ?_
  rw [nI_add i 1]
  refine va_sld hx hb hX hbl hbA hS (vp_in_nI (by omega) (by omega)) dL_law_1048 ?_
  refine lv_aload_n hx hb dL_law_1049 rfl (lv_at hl 1 rfl) ?_
  refine lv_iload_n hx hb dL_law_1050 rfl (lv_at hl 0 rfl) ?_
  refine lv_iconst (v := nI 2) hx hb dL_law_1051 (by decide) ?_
  refine lv_iadd hx hb dL_law_1052 ?_
  rw [nI_add i 2]
  refine va_sld hx hb hX hbl hbA hS (vp_in_nI (by omega) (by omega)) dL_law_1053 ?_
  refine lw_invv (M' := mX9_after) (As := [.int (xs (nI (i + 1)).toNatClampNeg), .int (xs (nI (i + 2)).toNatClampNeg)]) (rest := []) C dL_law_1054 ml_L_135 okX9_after imX9_after seX9_after ⟨(Nat.le_of_ble_eq_true rfl), (Nat.le_of_ble_eq_true rfl)⟩ (ci := 9) rfl rfl hk rfl rfl (Nat.le_of_ble_eq_true rfl) c1 (by omega) (by omega) A (fun H1 locs1 A1 => ?_)
  have hS1 := lw_S C.2.2.1 A1
  refine lv_aload_n hx hb dL_law_1057 rfl (lv_at hl 3 rfl) ?_
  refine lv_aload_n hx hb dL_law_1058 rfl (lv_at hl 1 rfl) ?_
  refine lv_iload_n hx hb dL_law_1059 rfl (lv_at hl 0 rfl) ?_
  refine lv_iconst (v := nI 1) hx hb dL_law_1060 (by decide) ?_
  refine lv_iadd hx hb dL_law_1061 ?_
  rw [nI_add i 1]
  refine va_sld hx hb hX hbl hbA hS1 (vp_in_nI (by omega) (by omega)) dL_law_1062 ?_
  refine lv_aload_n hx hb dL_law_1063 rfl (lv_at hl 1 rfl) ?_
  refine lv_iload_n hx hb dL_law_1064 rfl (lv_at hl 0 rfl) ?_
  refine lv_iconst (v := nI 2) hx hb dL_law_1065 (by decide) ?_
  refine lv_iadd hx hb dL_law_1066 ?_
  rw [nI_add i 2]
  refine va_sld hx hb hX hbl hbA hS1 (vp_in_nI (by omega) (by omega)) dL_law_1067 ?_
  refine lw_invv (M' := mX10_after) (As := [.int (xs (nI (i + 1)).toNatClampNeg), .int (xs (nI (i + 2)).toNatClampNeg)]) (rest := [.int a]) C dL_law_1068 ml_L_138 okX10_after imX10_after seX10_after ⟨(Nat.le_of_ble_eq_true rfl), (Nat.le_of_ble_eq_true rfl)⟩ (ci := 10) rfl rfl km rfl rfl (Nat.le_of_ble_eq_true rfl) c2 (by omega) (by omega) A1 (fun H2 locs2 A2 => ?_)
  have hS2 := lw_S C.2.2.1 A2
  exact lv_icmp_eq (tgt := 1195) hx hb dL_law_1071 (by decide) (fun _ => nx h2 H2 locs2 R2 A2) (fun q => absurd rfl q)
set_option maxHeartbeats 1000000 in
theorem lw_case_30 (C : LawC p w s m meth c b L xs) (hL : L ≤ 3072) (hi : i + 6 ≤ L) (hk : zk h x = 9) (S : St l w x T0 k h mX9_without mX10_without [.int (xs (nI (i + 1)).toNatClampNeg), .int (xs (nI (i + 2)).toNatClampNeg), .int (xs (nI (i + 3)).toNatClampNeg)]) (A : zAt w mLw s h H [(3, .int (nI i)), (0, .ref b), (1, .ref x), (2, .ref (x + 333))] ls locs x0 t0) (rm : ∀ h2, RLa x T0 h2 (k + 1) → zx h2 ≤ x0 + 600000 ∧ zt h2 ≤ t0 + 7302250)
    (nx : ∀ h2 H2 locs2, RLa x T0 h2 (k + 1) → zAt w mLw s h2 H2 [(3, .int (nI i)), (0, .ref b), (1, .ref x), (2, .ref (x + 333))] ls locs2 x0 t0 → W p l e room_1 s m #[Value.ref b] below meth c H2 locs2 (zx h2 - x0) (zt h2 - t0) (lw_Z below #[Value.ref b] s) (F0 m 1195 ls [])) : W p l e room_1 s m #[Value.ref b] below meth c H locs (zx h - x0) (zt h - t0) (lw_Z below #[Value.ref b] s) (F0 m 1076 ls []) := by
  obtain ⟨⟨hx, hb, -, -, -, -⟩, ⟨hX, hbl⟩, hw, -⟩ := id C
  have hbA : ¬ (fun q : Nat => s.heap.size ≤ q) b := Nat.not_le.mpr hbl
  have hS := lw_S hw A
  have hl := A.2.2.2.1
  obtain ⟨a, h1, h2, c1, c2, km, R2⟩ := S
  have rm2 := rm h2 R2
  have d1 := c1.1
  have d2 := c1.2.1
  have d3 := c2.1
  have d4 := c2.2.1
  refine lv_aload_n hx hb dL_law_1076 rfl (lv_at hl 2 rfl) ?_
  refine lv_aload_n hx hb dL_law_1077 rfl (lv_at hl 1 rfl) ?_
  refine lv_iload_n hx hb dL_law_1078 rfl (lv_at hl 0 rfl) ?_
  refine lv_iconst (v := nI 1) hx hb dL_law_1079 (by decide) ?_
  refine lv_iadd hx hb dL_law_1080 ?_
  rw [nI_add i 1]
  refine va_sld hx hb hX hbl hbA hS (vp_in_nI (by omega) (by omega)) dL_law_1081 ?_
  refine lv_aload_n hx hb dL_law_1082 rfl (lv_at hl 1 rfl) ?_
  refine lv_iload_n hx hb dL_law_1083 rfl (lv_at hl 0 rfl) ?_
  refine lv_iconst (v := nI 2) hx hb dL_law_1084 (by decide) ?_
  refine lv_iadd hx hb dL_law_1085 ?_
  rw [nI_add i 2]
  refine va_sld hx hb hX hbl hbA hS (vp_in_nI (by omega) (by omega)) dL_law_1086 ?_
  refine lv_aload_n hx hb dL_law_1087 rfl (lv_at hl 1 rfl) ?_
  refine lv_iload_n hx hb dL_law_1088 rfl (lv_at hl 0 rfl) ?_
  refine lv_iconst (v := nI 3) hx hb dL_law_1089 (by decide) ?_
  refine lv_iadd hx hb dL_law_1090 ?_
  rw [nI_add i 3]
  refine va_sld hx hb hX hbl hbA hS (vp_in_nI (by omega) (by omega)) dL_law_1091 ?_
  refine lw_invv (M' := mX9_without) (As := [.int (xs (nI (i + 1)).toNatClampNeg), .int (xs (nI (i + 2)).toNatClampNeg), .int (xs (nI (i + 3)).toNatClampNeg)]) (rest := []) C dL_law_1092 ml_L_139 okX9_without imX9_without seX9_without ⟨(Nat.le_of_ble_eq_true rfl), (Nat.le_of_ble_eq_true rfl)⟩ (ci := 9) rfl rfl hk rfl rfl (Nat.le_of_ble_eq_true rfl) c1 (by omega) (by omega) A (fun H1 locs1 A1 => ?_)
  have hS1 := lw_S C.2.2.1 A1
  refine lv_aload_n hx hb dL_law_1095 rfl (lv_at hl 3 rfl) ?_
  refine lv_aload_n hx hb dL_law_1096 rfl (lv_at hl 1 rfl) ?_
  refine lv_iload_n hx hb dL_law_1097 rfl (lv_at hl 0 rfl) ?_
  refine lv_iconst (v := nI 1) hx hb dL_law_1098 (by decide) ?_
  refine lv_iadd hx hb dL_law_1099 ?_
  rw [nI_add i 1]
  refine va_sld hx hb hX hbl hbA hS1 (vp_in_nI (by omega) (by omega)) dL_law_1100 ?_
  refine lv_aload_n hx hb dL_law_1101 rfl (lv_at hl 1 rfl) ?_
  refine lv_iload_n hx hb dL_law_1102 rfl (lv_at hl 0 rfl) ?_
  refine lv_iconst (v := nI 2) hx hb dL_law_1103 (by decide) ?_
  refine lv_iadd hx hb dL_law_1104 ?_
  rw [nI_add i 2]
  refine va_sld hx hb hX hbl hbA hS1 (vp_in_nI (by omega) (by omega)) dL_law_1105 ?_
  refine lv_aload_n hx hb dL_law_1106 rfl (lv_at hl 1 rfl) ?_
  refine lv_iload_n hx hb dL_law_1107 rfl (lv_at hl 0 rfl) ?_
  refine lv_iconst (v := nI 3) hx hb dL_law_1108 (by decide) ?_
  refine lv_iadd hx hb dL_law_1109 ?_
  rw [nI_add i 3]
  refine va_sld hx hb hX hbl hbA hS1 (vp_in_nI (by omega) (by omega)) dL_law_1110 ?_
  refine lw_invv (M' := mX10_without) (As := [.int (xs (nI (i + 1)).toNatClampNeg), .int (xs (nI (i + 2)).toNatClampNeg), .int (xs (nI (i + 3)).toNatClampNeg)]) (rest := [.int a]) C dL_law_1111 ml_L_142 okX10_without imX10_without seX10_without ⟨(Nat.le_of_ble_eq_true rfl), (Nat.le_of_ble_eq_true rfl)⟩ (ci := 10) rfl rfl km rfl rfl (Nat.le_of_ble_eq_true rfl) c2 (by omega) (by omega) A1 (fun H2 locs2 A2 => ?_)
  have hS2 := lw_S C.2.2.1 A2
  exact lv_icmp_eq (tgt := 1195) hx hb dL_law_1114 (by decide) (fun _ => nx h2 H2 locs2 R2 A2) (fun q => absurd rfl q)
set_option maxHeartbeats 1000000 in
theorem lw_case_31 (C : LawC p w s m meth c b L xs) (hL : L ≤ 3072) (hi : i + 6 ≤ L) (hk : zk h x = 9) (S : St l w x T0 k h mX9_blind mX10_blind [.int (xs (nI (i + 1)).toNatClampNeg), .int (xs (nI (i + 2)).toNatClampNeg)]) (A : zAt w mLw s h H [(3, .int (nI i)), (0, .ref b), (1, .ref x), (2, .ref (x + 333))] ls locs x0 t0) (rm : ∀ h2, RLa x T0 h2 (k + 1) → zx h2 ≤ x0 + 600000 ∧ zt h2 ≤ t0 + 7302250)
    (nx : ∀ h2 H2 locs2, RLa x T0 h2 (k + 1) → zAt w mLw s h2 H2 [(3, .int (nI i)), (0, .ref b), (1, .ref x), (2, .ref (x + 333))] ls locs2 x0 t0 → W p l e room_1 s m #[Value.ref b] below meth c H2 locs2 (zx h2 - x0) (zt h2 - t0) (lw_Z below #[Value.ref b] s) (F0 m 1195 ls [])) : W p l e room_1 s m #[Value.ref b] below meth c H locs (zx h - x0) (zt h - t0) (lw_Z below #[Value.ref b] s) (F0 m 1119 ls []) := by
  obtain ⟨⟨hx, hb, -, -, -, -⟩, ⟨hX, hbl⟩, hw, -⟩ := id C
  have hbA : ¬ (fun q : Nat => s.heap.size ≤ q) b := Nat.not_le.mpr hbl
  have hS := lw_S hw A
  have hl := A.2.2.2.1
  obtain ⟨a, h1, h2, c1, c2, km, R2⟩ := S
  have rm2 := rm h2 R2
  have d1 := c1.1
  have d2 := c1.2.1
  have d3 := c2.1
  have d4 := c2.2.1
  refine lv_aload_n hx hb dL_law_1119 rfl (lv_at hl 2 rfl) ?_
  refine lv_aload_n hx hb dL_law_1120 rfl (lv_at hl 1 rfl) ?_
  refine lv_iload_n hx hb dL_law_1121 rfl (lv_at hl 0 rfl) ?_
  refine lv_iconst (v := nI 1) hx hb dL_law_1122 (by decide) ?_
  refine lv_iadd hx hb dL_law_1123 ?_
  rw [nI_add i 1]
  refine va_sld hx hb hX hbl hbA hS (vp_in_nI (by omega) (by omega)) dL_law_1124 ?_
  refine lv_aload_n hx hb dL_law_1125 rfl (lv_at hl 1 rfl) ?_
  refine lv_iload_n hx hb dL_law_1126 rfl (lv_at hl 0 rfl) ?_
  refine lv_iconst (v := nI 2) hx hb dL_law_1127 (by decide) ?_
  refine lv_iadd hx hb dL_law_1128 ?_
  rw [nI_add i 2]
  refine va_sld hx hb hX hbl hbA hS (vp_in_nI (by omega) (by omega)) dL_law_1129 ?_
  refine lw_invv (M' := mX9_blind) (As := [.int (xs (nI (i + 1)).toNatClampNeg), .int (xs (nI (i + 2)).toNatClampNeg)]) (rest := []) C dL_law_1130 ml_L_143 okX9_blind imX9_blind seX9_blind ⟨(Nat.le_of_ble_eq_true rfl), (Nat.le_of_ble_eq_true rfl)⟩ (ci := 9) rfl rfl hk rfl rfl (Nat.le_of_ble_eq_true rfl) c1 (by omega) (by omega) A (fun H1 locs1 A1 => ?_)
  have hS1 := lw_S C.2.2.1 A1
  refine lv_aload_n hx hb dL_law_1133 rfl (lv_at hl 3 rfl) ?_
  refine lv_aload_n hx hb dL_law_1134 rfl (lv_at hl 1 rfl) ?_
  refine lv_iload_n hx hb dL_law_1135 rfl (lv_at hl 0 rfl) ?_
  refine lv_iconst (v := nI 1) hx hb dL_law_1136 (by decide) ?_
  refine lv_iadd hx hb dL_law_1137 ?_
  rw [nI_add i 1]
  refine va_sld hx hb hX hbl hbA hS1 (vp_in_nI (by omega) (by omega)) dL_law_1138 ?_
  refine lv_aload_n hx hb dL_law_1139 rfl (lv_at hl 1 rfl) ?_
  refine lv_iload_n hx hb dL_law_1140 rfl (lv_at hl 0 rfl) ?_
  refine lv_iconst (v := nI 2) hx hb dL_law_1141 (by decide) ?_
  refine lv_iadd hx hb dL_law_1142 ?_
  rw [nI_add i 2]
  refine va_sld hx hb hX hbl hbA hS1 (vp_in_nI (by omega) (by omega)) dL_law_1143 ?_
  refine lw_invv (M' := mX10_blind) (As := [.int (xs (nI (i + 1)).toNatClampNeg), .int (xs (nI (i + 2)).toNatClampNeg)]) (rest := [.int a]) C dL_law_1144 ml_L_146 okX10_blind imX10_blind seX10_blind ⟨(Nat.le_of_ble_eq_true rfl), (Nat.le_of_ble_eq_true rfl)⟩ (ci := 10) rfl rfl km rfl rfl (Nat.le_of_ble_eq_true rfl) c2 (by omega) (by omega) A1 (fun H2 locs2 A2 => ?_)
  have hS2 := lw_S C.2.2.1 A2
  exact lv_icmp_eq (tgt := 1195) hx hb dL_law_1147 (by decide) (fun _ => nx h2 H2 locs2 R2 A2) (fun q => absurd rfl q)
set_option maxHeartbeats 1000000 in
theorem lw_case_32 (C : LawC p w s m meth c b L xs) (hL : L ≤ 3072) (hi : i + 6 ≤ L) (hk : zk h x = 9) (S : St l w x T0 k h mX9_least mX10_least [.int (xs (nI (i + 1)).toNatClampNeg), .int (xs (nI (i + 2)).toNatClampNeg), .int (xs (nI (i + 3)).toNatClampNeg)]) (A : zAt w mLw s h H [(3, .int (nI i)), (0, .ref b), (1, .ref x), (2, .ref (x + 333))] ls locs x0 t0) (rm : ∀ h2, RLa x T0 h2 (k + 1) → zx h2 ≤ x0 + 600000 ∧ zt h2 ≤ t0 + 7302250)
    (nx : ∀ h2 H2 locs2, RLa x T0 h2 (k + 1) → zAt w mLw s h2 H2 [(3, .int (nI i)), (0, .ref b), (1, .ref x), (2, .ref (x + 333))] ls locs2 x0 t0 → W p l e room_1 s m #[Value.ref b] below meth c H2 locs2 (zx h2 - x0) (zt h2 - t0) (lw_Z below #[Value.ref b] s) (F0 m 1195 ls [])) : W p l e room_1 s m #[Value.ref b] below meth c H locs (zx h - x0) (zt h - t0) (lw_Z below #[Value.ref b] s) (F0 m 1152 ls []) := by
  obtain ⟨⟨hx, hb, -, -, -, -⟩, ⟨hX, hbl⟩, hw, -⟩ := id C
  have hbA : ¬ (fun q : Nat => s.heap.size ≤ q) b := Nat.not_le.mpr hbl
  have hS := lw_S hw A
  have hl := A.2.2.2.1
  obtain ⟨a, h1, h2, c1, c2, km, R2⟩ := S
  have rm2 := rm h2 R2
  have d1 := c1.1
  have d2 := c1.2.1
  have d3 := c2.1
  have d4 := c2.2.1
  refine lv_aload_n hx hb dL_law_1152 rfl (lv_at hl 2 rfl) ?_
  refine lv_aload_n hx hb dL_law_1153 rfl (lv_at hl 1 rfl) ?_
  refine lv_iload_n hx hb dL_law_1154 rfl (lv_at hl 0 rfl) ?_
  refine lv_iconst (v := nI 1) hx hb dL_law_1155 (by decide) ?_
  refine lv_iadd hx hb dL_law_1156 ?_
  rw [nI_add i 1]
  refine va_sld hx hb hX hbl hbA hS (vp_in_nI (by omega) (by omega)) dL_law_1157 ?_
  refine lv_aload_n hx hb dL_law_1158 rfl (lv_at hl 1 rfl) ?_
  refine lv_iload_n hx hb dL_law_1159 rfl (lv_at hl 0 rfl) ?_
  refine lv_iconst (v := nI 2) hx hb dL_law_1160 (by decide) ?_
  refine lv_iadd hx hb dL_law_1161 ?_
  rw [nI_add i 2]
  refine va_sld hx hb hX hbl hbA hS (vp_in_nI (by omega) (by omega)) dL_law_1162 ?_
  refine lv_aload_n hx hb dL_law_1163 rfl (lv_at hl 1 rfl) ?_
  refine lv_iload_n hx hb dL_law_1164 rfl (lv_at hl 0 rfl) ?_
  refine lv_iconst (v := nI 3) hx hb dL_law_1165 (by decide) ?_
  refine lv_iadd hx hb dL_law_1166 ?_
  rw [nI_add i 3]
  refine va_sld hx hb hX hbl hbA hS (vp_in_nI (by omega) (by omega)) dL_law_1167 ?_
  refine lw_invv (M' := mX9_least) (As := [.int (xs (nI (i + 1)).toNatClampNeg), .int (xs (nI (i + 2)).toNatClampNeg), .int (xs (nI (i + 3)).toNatClampNeg)]) (rest := []) C dL_law_1168 ml_L_147 okX9_least imX9_least seX9_least ⟨(Nat.le_of_ble_eq_true rfl), (Nat.le_of_ble_eq_true rfl)⟩ (ci := 9) rfl rfl hk rfl rfl (Nat.le_of_ble_eq_true rfl) c1 (by omega) (by omega) A (fun H1 locs1 A1 => ?_)
  have hS1 := lw_S C.2.2.1 A1
  refine lv_aload_n hx hb dL_law_1171 rfl (lv_at hl 3 rfl) ?_
  refine lv_aload_n hx hb dL_law_1172 rfl (lv_at hl 1 rfl) ?_
  refine lv_iload_n hx hb dL_law_1173 rfl (lv_at hl 0 rfl) ?_
  refine lv_iconst (v := nI 1) hx hb dL_law_1174 (by decide) ?_
  refine lv_iadd hx hb dL_law_1175 ?_
  rw [nI_add i 1]
  refine va_sld hx hb hX hbl hbA hS1 (vp_in_nI (by omega) (by omega)) dL_law_1176 ?_
  refine lv_aload_n hx hb dL_law_1177 rfl (lv_at hl 1 rfl) ?_
  refine lv_iload_n hx hb dL_law_1178 rfl (lv_at hl 0 rfl) ?_
  refine lv_iconst (v := nI 2) hx hb dL_law_1179 (by decide) ?_
  refine lv_iadd hx hb dL_law_1180 ?_
  rw [nI_add i 2]
  refine va_sld hx hb hX hbl hbA hS1 (vp_in_nI (by omega) (by omega)) dL_law_1181 ?_
  refine lv_aload_n hx hb dL_law_1182 rfl (lv_at hl 1 rfl) ?_
  refine lv_iload_n hx hb dL_law_1183 rfl (lv_at hl 0 rfl) ?_
  refine lv_iconst (v := nI 3) hx hb dL_law_1184 (by decide) ?_
  refine lv_iadd hx hb dL_law_1185 ?_
  rw [nI_add i 3]
  refine va_sld hx hb hX hbl hbA hS1 (vp_in_nI (by omega) (by omega)) dL_law_1186 ?_
  refine lw_invv (M' := mX10_least) (As := [.int (xs (nI (i + 1)).toNatClampNeg), .int (xs (nI (i + 2)).toNatClampNeg), .int (xs (nI (i + 3)).toNatClampNeg)]) (rest := [.int a]) C dL_law_1187 ml_L_150 okX10_least imX10_least seX10_least ⟨(Nat.le_of_ble_eq_true rfl), (Nat.le_of_ble_eq_true rfl)⟩ (ci := 10) rfl rfl km rfl rfl (Nat.le_of_ble_eq_true rfl) c2 (by omega) (by omega) A1 (fun H2 locs2 A2 => ?_)
  have hS2 := lw_S C.2.2.1 A2
  exact lv_icmp_eq (tgt := 1195) hx hb dL_law_1190 (by decide) (fun _ => nx h2 H2 locs2 R2 A2) (fun q => absurd rfl q)
end LAWc
