section LAWl
variable {p : Program} {l : Launch} {e : Env} {s : State} {m : MethodId} {below : List Frame} {meth : Method} {c : Code} {w : zW} {b L : Nat} {xs : Nat → Int32} {x T0 x0 t0 : Nat}
theorem GC.m480 {h : zH} {B : Nat → Nat} {ls : Nat → List Nat} {N : nT} {Ms : Nat → nT} {n a : Nat} (g : GC h x B ls N Ms n) (q : isBk x a) : (zi h 167 a).toInt ≤ 480 := by
  obtain ⟨j, hj, rfl⟩ := g.srj q
  have cw := g.2.2.2.2.2.1 j hj
  rw [cw.2.2.1, ← jI_nat, jI_toInt (by omega) (by have := cw.2.2.2; omega)]
  have := cw.2.2.2
  omega
theorem RLa.room {h : zH} {k : Nat} (R : RLa x T0 h k) : zx h ≤ x + 2739 ∧ zt h ≤ T0 + 24000 := by
  obtain ⟨B, ls, N, Ms, n, tp, st, fk, fp, R⟩ := R
  have g := R.1
  have m1 := g.m480 (a := x + 2) (Or.inl rfl)
  have m2 := g.m480 (a := x + 67) (Or.inr (Or.inl rfl))
  have m3 := g.m480 (a := x + 133) (Or.inr (Or.inr (Or.inl rfl)))
  have m4 := g.m480 (a := x + 198) (Or.inr (Or.inr (Or.inr (Or.inl rfl))))
  have m5 := g.m480 (a := x + 263) (Or.inr (Or.inr (Or.inr (Or.inr rfl))))
  obtain ⟨c1, c2, c3⟩ := R.2.2.2.2.2.2
  unfold mdS at c2
  have c4 : zx h ≤ x + 2739 := by omega
  refine ⟨c4, ?_⟩
  clear c2 m1 m2 m3 m4 m5
  omega
theorem lw_gt {k : Nat} (hL : L ≤ 3072) (hk : k ≤ 600) (q : L < 6 * k + 6) : Int32.ofNat L - nI 6 < nI (6 * k) := by
  show nI L - nI 6 < nI (6 * k)
  rw [← jI_nat, ← jI_nat, ← jI_nat, jI_sub]
  exact (jI_lt (by omega) (by omega)).mpr (by omega)
set_option maxHeartbeats 2000000 in
theorem lw_loop (C : LawC p w s m meth c b L xs) (hL : L ≤ 3072) (ex : x0 = x) (et : T0 ≤ t0 + 7000000) : ∀ (f k : Nat) (h : zH) (H : Heap) (ls : Array Slot) (locs : List Loc), k ≤ 600 → L < 6 * k + 6 * f → RLa x T0 h k → zAt w mLw s h H [(3, .int (nI (6 * k))), (0, .ref b), (1, .ref x), (2, .ref (x + 333))] ls locs x0 t0 → W p l e room_1 s m #[Value.ref b] below meth c H locs (zx h - x0) (zt h - t0) (lw_Z below #[Value.ref b] s) (F0 m 18 ls []) := by
  obtain ⟨⟨hx, hb, -, -, -, -⟩, ⟨hX, hbl⟩, hw, -⟩ := id C
  have hbA : ¬ (fun q : Nat => s.heap.size ≤ q) b := Nat.not_le.mpr hbl
  intro f
  induction f with
  | zero =>
    intro k h H ls locs k6 hf RR A
    have rm := RR.room
    have hS := lw_S hw A
    have hl := A.2.2.2.1
    refine lv_iload_n hx hb dL_law_18 rfl (lv_at hl 0 rfl) ?_
    refine lv_aload_n hx hb dL_law_19 rfl (lv_at hl 1 rfl) ?_
    refine va_slen hx hb hX hbl hbA hS dL_law_20 ?_
    refine lv_bipush (v := nI 6) hx hb dL_law_21 (by decide) ?_
    refine lv_isub hx hb dL_law_23 ?_
    exact lv_icmp_gt (tgt := 1201) hx hb dL_law_24 (by decide) (fun q => lw_end C (by omega) (by omega) A) (fun q => absurd (lw_gt hL k6 (by omega)) q)
  | succ f ih =>
    intro k h H ls locs k6 hf RR A
    have rm := RR.room
    have hS := lw_S hw A
    have hl := A.2.2.2.1
    refine lv_iload_n hx hb dL_law_18 rfl (lv_at hl 0 rfl) ?_
    refine lv_aload_n hx hb dL_law_19 rfl (lv_at hl 1 rfl) ?_
    refine va_slen hx hb hX hbl hbA hS dL_law_20 ?_
    refine lv_bipush (v := nI 6) hx hb dL_law_21 (by decide) ?_
    refine lv_isub hx hb dL_law_23 ?_
    refine lv_icmp_gt (tgt := 1201) hx hb dL_law_24 (by decide) (fun q => lw_end C (by omega) (by omega) A) (fun q => ?_)
    have hi : 6 * k + 6 ≤ L := by
      by_cases z : 6 * k + 6 ≤ L
      · exact z
      · exact absurd (lw_gt hL k6 (by omega)) q
    clear q
    have rm2 : ∀ h2, RLa x T0 h2 (k + 1) → zx h2 ≤ x0 + 600000 ∧ zt h2 ≤ t0 + 7302250 := fun h2 R2 => by have q := R2.room; exact ⟨by omega, by omega⟩
    have nx : ∀ h2 H2 locs2, RLa x T0 h2 (k + 1) → zAt w mLw s h2 H2 [(3, .int (nI (6 * k))), (0, .ref b), (1, .ref x), (2, .ref (x + 333))] ls locs2 x0 t0 → W p l e room_1 s m #[Value.ref b] below meth c H2 locs2 (zx h2 - x0) (zt h2 - t0) (lw_Z below #[Value.ref b] s) (F0 m 1195 ls []) := fun h2 H2 locs2 R2 A2 => by
      refine lv_iinc (v := nI (6 * (k + 1))) (lv' := [(3, .int (nI (6 * (k + 1)))), (0, .ref b), (1, .ref x), (2, .ref (x + 333))]) hx hb dL_law_1195 A2.2.2.2.1 (k := 0) rfl (show nI (6 * k) + nI 6 = nI (6 * (k + 1)) by rw [nI_add]; rfl) (by decide) rfl (fun ls hl => ?_)
      refine lv_goto (tgt := 18) hx hb dL_law_1198 (by decide) ?_
      exact ih (k + 1) h2 H2 ls locs2 (by omega) (by omega) R2 ⟨A2.1, A2.2.1, A2.2.2.1, hl, A2.2.2.2.2⟩
    obtain ⟨B, ls0, N, Ms, n, tp, st, fk, fp, R⟩ := RR
    have hk : zk h x = 9 := R.1.1.2.1
    refine lv_aload_n hx hb dL_law_27 rfl (lv_at hl 1 rfl) ?_
    refine lv_iload_n hx hb dL_law_28 rfl (lv_at hl 0 rfl) ?_
    refine va_sld hx hb hX hbl hbA hS (vp_in_nI (by omega) (by omega)) dL_law_29 ?_
    refine lv_bipush (v := nI 63) hx hb dL_law_30 (by decide) ?_
    refine lv_iand hx hb dL_law_32 ?_
    generalize xs (nI (6 * k)).toNatClampNeg &&& nI 63 = v
    rcases (show v.toInt < 0 ∨ 32 < v.toInt ∨ v.toInt = 0 ∨ v.toInt = 1 ∨ v.toInt = 2 ∨ v.toInt = 3 ∨ v.toInt = 4 ∨ v.toInt = 5 ∨ v.toInt = 6 ∨ v.toInt = 7 ∨ v.toInt = 8 ∨ v.toInt = 9 ∨ v.toInt = 10 ∨ v.toInt = 11 ∨ v.toInt = 12 ∨ v.toInt = 13 ∨ v.toInt = 14 ∨ v.toInt = 15 ∨ v.toInt = 16 ∨ v.toInt = 17 ∨ v.toInt = 18 ∨ v.toInt = 19 ∨ v.toInt = 20 ∨ v.toInt = 21 ∨ v.toInt = 22 ∨ v.toInt = 23 ∨ v.toInt = 24 ∨ v.toInt = 25 ∨ v.toInt = 26 ∨ v.toInt = 27 ∨ v.toInt = 28 ∨ v.toInt = 29 ∨ v.toInt = 30 ∨ v.toInt = 31 ∨ v.toInt = 32 by omega) with q | q | q | q | q | q | q | q | q | q | q | q | q | q | q | q | q | q | q | q | q | q | q | q | q | q | q | q | q | q | q | q | q | q | q
    · exact lv_tableOut (tgt := 1195) hx hb dL_law_33 (Or.inl q) (by decide) (nx h H locs R.upk A)
    · exact lv_tableOut (tgt := 1195) hx hb dL_law_33 (Or.inr q) (by decide) (nx h H locs R.upk A)
    · exact lv_tableIn (off := 147) (tgt := 180) hx hb dL_law_33 (by omega) (by omega) (by rw [q]; rfl) (by decide) (lw_case_0 C hL hi hk (twoX_status R) A rm2 nx)
    · exact lv_tableIn (off := 160) (tgt := 193) hx hb dL_law_33 (by omega) (by omega) (by rw [q]; rfl) (by decide) (lw_case_1 C hL hi hk (twoX_feed R) A rm2 nx)
    · exact lv_tableIn (off := 223) (tgt := 256) hx hb dL_law_33 (by omega) (by omega) (by rw [q]; rfl) (by decide) (lw_case_2 C hL hi hk (twoX_load R) A rm2 nx)
    · exact lv_tableIn (off := 246) (tgt := 279) hx hb dL_law_33 (by omega) (by omega) (by rw [q]; rfl) (by decide) (lw_case_3 C hL hi hk (twoX_fault R) A rm2 nx)
    · exact lv_tableIn (off := 269) (tgt := 302) hx hb dL_law_33 (by omega) (by omega) (by rw [q]; rfl) (by decide) (lw_case_4 C hL hi hk (twoX_many R k6) A rm2 nx)
    · exact lv_tableIn (off := 292) (tgt := 325) hx hb dL_law_33 (by omega) (by omega) (by rw [q]; rfl) (by decide) (lw_case_5 C hL hi hk (twoX_link R k6) A rm2 nx)
    · exact lv_tableIn (off := 325) (tgt := 358) hx hb dL_law_33 (by omega) (by omega) (by rw [q]; rfl) (by decide) (lw_case_6 C hL hi hk (twoX_flow R k6) A rm2 nx)
    · exact lv_tableIn (off := 358) (tgt := 391) hx hb dL_law_33 (by omega) (by omega) (by rw [q]; rfl) (by decide) (lw_case_7 C hL hi hk (twoX_path R k6) A rm2 nx)
    · exact lv_tableIn (off := 391) (tgt := 424) hx hb dL_law_33 (by omega) (by omega) (by rw [q]; rfl) (by decide) (lw_case_8 C hL hi hk (twoX_packet R k6) A rm2 nx)
    · exact lv_tableIn (off := 434) (tgt := 467) hx hb dL_law_33 (by omega) (by omega) (by rw [q]; rfl) (by decide) (lw_case_9 C hL hi hk (twoX_event R k6) A rm2 nx)
    · exact lv_tableIn (off := 467) (tgt := 500) hx hb dL_law_33 (by omega) (by omega) (by rw [q]; rfl) (by decide) (lw_case_10 C hL hi hk (twoX_given R k6) A rm2 nx)
    · exact lv_tableIn (off := 500) (tgt := 533) hx hb dL_law_33 (by omega) (by omega) (by rw [q]; rfl) (by decide) (lw_case_11 C hL hi hk (twoX_where R k6) A rm2 nx)
    · exact lv_tableIn (off := 533) (tgt := 566) hx hb dL_law_33 (by omega) (by omega) (by rw [q]; rfl) (by decide) (lw_case_12 C hL hi hk (twoX_eldest R k6) A rm2 nx)
    · exact lv_tableIn (off := 556) (tgt := 589) hx hb dL_law_33 (by omega) (by omega) (by rw [q]; rfl) (by decide) (lw_case_13 C hL hi hk (twoX_past R k6) A rm2 nx)
    · exact lv_tableIn (off := 589) (tgt := 622) hx hb dL_law_33 (by omega) (by omega) (by rw [q]; rfl) (by decide) (lw_case_14 C hL hi hk (twoX_top R k6) A rm2 nx)
    · exact lv_tableIn (off := 612) (tgt := 645) hx hb dL_law_33 (by omega) (by omega) (by rw [q]; rfl) (by decide) (lw_case_15 C hL hi hk (twoX_alike R k6) A rm2 nx)
    · exact lv_tableIn (off := 645) (tgt := 678) hx hb dL_law_33 (by omega) (by omega) (by rw [q]; rfl) (by decide) (lw_case_16 C hL hi hk (twoX_set R k6) A rm2 nx)
    · exact lv_tableIn (off := 688) (tgt := 721) hx hb dL_law_33 (by omega) (by omega) (by rw [q]; rfl) (by decide) (lw_case_17 C hL hi hk (fun z hz => twoX_turn hz R k6) A rm2 nx)
    · exact lv_tableIn (off := 737) (tgt := 770) hx hb dL_law_33 (by omega) (by omega) (by rw [q]; rfl) (by decide) (lw_case_18 C hL hi hk (twoX_more R k6) A rm2 nx)
    · exact lv_tableIn (off := 770) (tgt := 803) hx hb dL_law_33 (by omega) (by omega) (by rw [q]; rfl) (by decide) (lw_case_19 C hL hi hk (twoX_kind R k6) A rm2 nx)
    · exact lv_tableIn (off := 803) (tgt := 836) hx hb dL_law_33 (by omega) (by omega) (by rw [q]; rfl) (by decide) (lw_case_20 C hL hi hk (twoX_detour R k6) A rm2 nx)
    · exact lv_tableIn (off := 846) (tgt := 879) hx hb dL_law_33 (by omega) (by omega) (by rw [q]; rfl) (by decide) (lw_case_21 C hL hi hk (twoX_tick R k6) A rm2 nx)
    · exact lv_tableIn (off := 869) (tgt := 902) hx hb dL_law_33 (by omega) (by omega) (by rw [q]; rfl) (by decide) (lw_case_22 C hL hi hk (twoX_mark R) A rm2 nx)
    · exact lv_tableIn (off := 882) (tgt := 915) hx hb dL_law_33 (by omega) (by omega) (by rw [q]; rfl) (by decide) (lw_case_23 C hL hi hk (twoX_back R) A rm2 nx)
    · exact lv_tableIn (off := 895) (tgt := 928) hx hb dL_law_33 (by omega) (by omega) (by rw [q]; rfl) (by decide) (lw_case_24 C hL hi hk (twoX_best R k6) A rm2 nx)
    · exact lv_tableIn (off := 918) (tgt := 951) hx hb dL_law_33 (by omega) (by omega) (by rw [q]; rfl) (by decide) (lw_case_25 C hL hi hk (twoX_neck R k6) A rm2 nx)
    · exact lv_tableIn (off := 941) (tgt := 974) hx hb dL_law_33 (by omega) (by omega) (by rw [q]; rfl) (by decide) (lw_case_26 C hL hi hk (twoX_when R k6) A rm2 nx)
    · exact lv_tableIn (off := 964) (tgt := 997) hx hb dL_law_33 (by omega) (by omega) (by rw [q]; rfl) (by decide) (lw_case_27 C hL hi hk (twoX_closes R k6) A rm2 nx)
    · exact lv_tableIn (off := 987) (tgt := 1020) hx hb dL_law_33 (by omega) (by omega) (by rw [q]; rfl) (by decide) (lw_case_28 C hL hi hk (twoX_caught R k6) A rm2 nx)
    · exact lv_tableIn (off := 1010) (tgt := 1043) hx hb dL_law_33 (by omega) (by omega) (by rw [q]; rfl) (by decide) (lw_case_29 C hL hi hk (twoX_after R k6) A rm2 nx)
    · exact lv_tableIn (off := 1043) (tgt := 1076) hx hb dL_law_33 (by omega) (by omega) (by rw [q]; rfl) (by decide) (lw_case_30 C hL hi hk (twoX_without R k6) A rm2 nx)
    · exact lv_tableIn (off := 1086) (tgt := 1119) hx hb dL_law_33 (by omega) (by omega) (by rw [q]; rfl) (by decide) (lw_case_31 C hL hi hk (twoX_blind R k6) A rm2 nx)
    · exact lv_tableIn (off := 1119) (tgt := 1152) hx hb dL_law_33 (by omega) (by omega) (by rw [q]; rfl) (by decide) (lw_case_32 C hL hi hk (twoX_least R k6) A rm2 nx)
end LAWl
