section ZG2
variable {l : Launch} {w : zW} {M : zMe} {pc : Nat} {lv : List (Nat × Value)} {rest : List Value} {h : zH} {Q : Option Value → zH → Prop}
theorem g_ineg {x : Int32} (hd : decode M.2.1 pc = .ok (.ineg, 1)) (k : zG l w M (pc + 1) lv (.int (-x) :: rest) h Q) : zG l w M pc lv (.int x :: rest) h Q :=
  zG.go (fun C _ h1 kk => lv_ineg C.1 C.2.1 hd (kk _ h1)) k
theorem g_lneg {x : Int64} (hd : decode M.2.1 pc = .ok (.lneg, 1)) (k : zG l w M (pc + 1) lv (.long (-x) :: rest) h Q) : zG l w M pc lv (.long x :: rest) h Q :=
  zG.go (fun C _ h1 kk => lv_lneg C.1 C.2.1 hd (kk _ h1)) k
theorem g_ishl {x y : Int32} (hd : decode M.2.1 pc = .ok (.ishl, 1)) (k : zG l w M (pc + 1) lv (.int (x <<< (y &&& 31)) :: rest) h Q) : zG l w M pc lv (.int y :: .int x :: rest) h Q :=
  zG.go (fun C _ h1 kk => lv_ishl C.1 C.2.1 hd (kk _ h1)) k
theorem g_ishr {x y : Int32} (hd : decode M.2.1 pc = .ok (.ishr, 1)) (k : zG l w M (pc + 1) lv (.int (x >>> (y &&& 31)) :: rest) h Q) : zG l w M pc lv (.int y :: .int x :: rest) h Q :=
  zG.go (fun C _ h1 kk => lv_ishr C.1 C.2.1 hd (kk _ h1)) k
theorem g_lshl {x : Int64} {y : Int32} (hd : decode M.2.1 pc = .ok (.lshl, 1)) (k : zG l w M (pc + 1) lv (.long (x <<< (y.toInt64 &&& 63)) :: rest) h Q) : zG l w M pc lv (.int y :: .long x :: rest) h Q :=
  zG.go (fun C _ h1 kk => lv_lshl C.1 C.2.1 hd rfl (kk _ h1)) k
theorem g_lshr {x : Int64} {y : Int32} (hd : decode M.2.1 pc = .ok (.lshr, 1)) (k : zG l w M (pc + 1) lv (.long (x >>> (y.toInt64 &&& 63)) :: rest) h Q) : zG l w M pc lv (.int y :: .long x :: rest) h Q :=
  zG.go (fun C _ h1 kk => lv_lshr C.1 C.2.1 hd rfl (kk _ h1)) k
theorem g_i2l {x : Int32} (hd : decode M.2.1 pc = .ok (.i2l, 1)) (k : zG l w M (pc + 1) lv (.long x.toInt64 :: rest) h Q) : zG l w M pc lv (.int x :: rest) h Q :=
  zG.go (fun C _ h1 kk => lv_i2l C.1 C.2.1 hd rfl (kk _ h1)) k
theorem g_l2i {x : Int64} (hd : decode M.2.1 pc = .ok (.l2i, 1)) (k : zG l w M (pc + 1) lv (.int x.toInt32 :: rest) h Q) : zG l w M pc lv (.long x :: rest) h Q :=
  zG.go (fun C _ h1 kk => lv_l2i C.1 C.2.1 hd rfl (kk _ h1)) k
theorem g_i2b {x : Int32} (hd : decode M.2.1 pc = .ok (.i2b, 1)) (k : zG l w M (pc + 1) lv (.int x.toInt8.toInt32 :: rest) h Q) : zG l w M pc lv (.int x :: rest) h Q :=
  zG.go (fun C _ h1 kk => lv_i2b C.1 C.2.1 hd rfl (kk _ h1)) k
theorem g_i2c {x v : Int32} (hd : decode M.2.1 pc = .ok (.i2c, 1)) (hv : (x.toUInt32 % 65536).toInt32 = v) (k : zG l w M (pc + 1) lv (.int v :: rest) h Q) : zG l w M pc lv (.int x :: rest) h Q :=
  zG.go (fun C _ h1 kk => lv_i2c C.1 C.2.1 hd hv (kk _ h1)) k
theorem g_lcmp {x y : Int64} (hd : decode M.2.1 pc = .ok (.lcmp, 1)) (k : zG l w M (pc + 1) lv (.int (lg_cmp x y) :: rest) h Q) : zG l w M pc lv (.long y :: .long x :: rest) h Q :=
  zG.go (fun C _ h1 kk => W.lcmp C.1 C.2.1 hd (kk _ h1)) k
theorem g_dup {va : Value} (hd : decode M.2.1 pc = .ok (.dup, 1)) (hva : va.category = 1) (k : zG l w M (pc + 1) lv (va :: va :: rest) h Q) : zG l w M pc lv (va :: rest) h Q :=
  zG.go (fun C _ h1 kk => lv_dup C.1 C.2.1 hd hva (kk _ h1)) k
theorem g_pop {va : Value} (hd : decode M.2.1 pc = .ok (.pop, 1)) (hva : va.category = 1) (k : zG l w M (pc + 1) lv (rest) h Q) : zG l w M pc lv (va :: rest) h Q :=
  zG.go (fun C _ h1 kk => lv_pop C.1 C.2.1 hd hva (kk _ h1)) k
theorem g_dup2 {va vb : Value} (hd : decode M.2.1 pc = .ok (.dup2, 1)) (hva : va.category = 1) (hvb : vb.category = 1) (k : zG l w M (pc + 1) lv (va :: vb :: va :: vb :: rest) h Q) : zG l w M pc lv (va :: vb :: rest) h Q :=
  zG.go (fun C _ h1 kk => lv_dup2_11 C.1 C.2.1 hd hva hvb (kk _ h1)) k
theorem g_goto {off : Int} {tgt : Nat} (hd : decode M.2.1 pc = .ok (.goto off, 3)) (ht : (pc : Int) + off = (tgt : Int)) (k : zG l w M tgt lv rest h Q) : zG l w M pc lv rest h Q :=
  zG.go (fun C _ h1 kk => lv_goto C.1 C.2.1 hd ht (kk _ h1)) k
theorem g_ifnull {x : Nat} {off : Int} (hd : decode M.2.1 pc = .ok (.ifnull off, 3)) (k : zG l w M (pc + 3) lv rest h Q) : zG l w M pc lv (.ref x :: rest) h Q :=
  zG.go (fun C _ h1 kk => lv_ifnull C.1 C.2.1 hd (kk _ h1)) k
theorem g_ifnullN {off : Int} {tgt : Nat} (hd : decode M.2.1 pc = .ok (.ifnull off, 3)) (ht : (pc : Int) + off = (tgt : Int)) (k : zG l w M tgt lv rest h Q) : zG l w M pc lv (.null :: rest) h Q :=
  zG.go (fun C _ h1 kk => lv_ifnullN C.1 C.2.1 hd ht (kk _ h1)) k
theorem g_ifnonnull {x : Nat} {off : Int} {tgt : Nat} (hd : decode M.2.1 pc = .ok (.ifnonnull off, 3)) (ht : (pc : Int) + off = (tgt : Int)) (k : zG l w M tgt lv rest h Q) : zG l w M pc lv (.ref x :: rest) h Q :=
  zG.go (fun C _ h1 kk => lv_ifnonnull C.1 C.2.1 hd ht (kk _ h1)) k
theorem g_ifnonnullN {off : Int} (hd : decode M.2.1 pc = .ok (.ifnonnull off, 3)) (k : zG l w M (pc + 3) lv rest h Q) : zG l w M pc lv (.null :: rest) h Q :=
  zG.go (fun C _ h1 kk => lv_ifnonnullN C.1 C.2.1 hd (kk _ h1)) k
theorem g_tableOut {dflt lo hi : Int} {offs : Array Int} {len : Nat} {x : Int32} {tgt : Nat} (hd : decode M.2.1 pc = .ok (.tableswitch dflt lo hi offs, len)) (hx : x.toInt < lo ∨ hi < x.toInt) (ht : (pc : Int) + dflt = (tgt : Int)) (k : zG l w M tgt lv rest h Q) : zG l w M pc lv (.int x :: rest) h Q :=
  zG.go (fun C _ h1 kk => lv_tableOut C.1 C.2.1 hd hx ht (kk _ h1)) k
theorem g_tableIn {dflt lo hi : Int} {offs : Array Int} {len : Nat} {x : Int32} {off : Int} {tgt : Nat} (hd : decode M.2.1 pc = .ok (.tableswitch dflt lo hi offs, len)) (hx1 : ¬ x.toInt < lo) (hx2 : ¬ hi < x.toInt) (ho : offs[(x.toInt - lo).toNat]? = some off) (ht : (pc : Int) + off = (tgt : Int)) (k : zG l w M tgt lv rest h Q) : zG l w M pc lv (.int x :: rest) h Q :=
  zG.go (fun C _ h1 kk => lv_tableIn C.1 C.2.1 hd hx1 hx2 ho ht (kk _ h1)) k
theorem g_lookup {dflt : Int} {ps : Array (Int × Int)} {len : Nat} {x : Int32} {off : Int} {tgt : Nat} (hd : decode M.2.1 pc = .ok (.lookupswitch dflt ps, len)) (hp : (ps.toList.zip (ps.toList.drop 1)).all (fun (a, next) => a.1 < next.1) = true) (ho : Op.lookupswitch.offset ps.toList dflt x.toInt = off) (ht : (pc : Int) + off = (tgt : Int)) (k : zG l w M tgt lv rest h Q) : zG l w M pc lv (.int x :: rest) h Q :=
  zG.go (fun C _ h1 kk => lv_lookup C.1 C.2.1 hd hp ho ht (kk _ h1)) k
theorem g_if_eq {x : Int32} {off : Int} {tgt : Nat} (hd : decode M.2.1 pc = .ok (.ifCond .eq off, 3)) (ht : (pc : Int) + off = (tgt : Int)) (kt : x = 0 → zG l w M tgt lv rest h Q) (kf : ¬ x = 0 → zG l w M (pc + 3) lv rest h Q) : zG l w M pc lv (.int x :: rest) h Q := by
  by_cases hP : x = 0
  · exact zG.go (fun C _ h1 kk => lv_if_eq C.1 C.2.1 hd ht (fun _ => kk _ h1) (fun hq => absurd hP hq)) (kt hP)
  · exact zG.go (fun C _ h1 kk => lv_if_eq C.1 C.2.1 hd ht (fun hq => absurd hq hP) (fun _ => kk _ h1)) (kf hP)
theorem g_icmp_eq {x y : Int32} {off : Int} {tgt : Nat} (hd : decode M.2.1 pc = .ok (.if_icmp .eq off, 3)) (ht : (pc : Int) + off = (tgt : Int)) (kt : x = y → zG l w M tgt lv rest h Q) (kf : ¬ x = y → zG l w M (pc + 3) lv rest h Q) : zG l w M pc lv (.int y :: .int x :: rest) h Q := by
  by_cases hP : x = y
  · exact zG.go (fun C _ h1 kk => lv_icmp_eq C.1 C.2.1 hd ht (fun _ => kk _ h1) (fun hq => absurd hP hq)) (kt hP)
  · exact zG.go (fun C _ h1 kk => lv_icmp_eq C.1 C.2.1 hd ht (fun hq => absurd hq hP) (fun _ => kk _ h1)) (kf hP)
theorem g_if_ne {x : Int32} {off : Int} {tgt : Nat} (hd : decode M.2.1 pc = .ok (.ifCond .ne off, 3)) (ht : (pc : Int) + off = (tgt : Int)) (kt : ¬ x = 0 → zG l w M tgt lv rest h Q) (kf : x = 0 → zG l w M (pc + 3) lv rest h Q) : zG l w M pc lv (.int x :: rest) h Q := by
  by_cases hP : ¬ x = 0
  · exact zG.go (fun C _ h1 kk => lv_if_ne C.1 C.2.1 hd ht (fun _ => kk _ h1) (fun hq => absurd hq hP)) (kt hP)
  · exact zG.go (fun C _ h1 kk => lv_if_ne C.1 C.2.1 hd ht (fun hq => absurd hq hP) (fun _ => kk _ h1)) (kf (Classical.not_not.mp hP))
theorem g_icmp_ne {x y : Int32} {off : Int} {tgt : Nat} (hd : decode M.2.1 pc = .ok (.if_icmp .ne off, 3)) (ht : (pc : Int) + off = (tgt : Int)) (kt : ¬ x = y → zG l w M tgt lv rest h Q) (kf : x = y → zG l w M (pc + 3) lv rest h Q) : zG l w M pc lv (.int y :: .int x :: rest) h Q := by
  by_cases hP : ¬ x = y
  · exact zG.go (fun C _ h1 kk => lv_icmp_ne C.1 C.2.1 hd ht (fun _ => kk _ h1) (fun hq => absurd hq hP)) (kt hP)
  · exact zG.go (fun C _ h1 kk => lv_icmp_ne C.1 C.2.1 hd ht (fun hq => absurd hq hP) (fun _ => kk _ h1)) (kf (Classical.not_not.mp hP))
theorem g_if_lt {x : Int32} {off : Int} {tgt : Nat} (hd : decode M.2.1 pc = .ok (.ifCond .lt off, 3)) (ht : (pc : Int) + off = (tgt : Int)) (kt : x < 0 → zG l w M tgt lv rest h Q) (kf : ¬ x < 0 → zG l w M (pc + 3) lv rest h Q) : zG l w M pc lv (.int x :: rest) h Q := by
  by_cases hP : x < 0
  · exact zG.go (fun C _ h1 kk => lv_if_lt C.1 C.2.1 hd ht (fun _ => kk _ h1) (fun hq => absurd hP hq)) (kt hP)
  · exact zG.go (fun C _ h1 kk => lv_if_lt C.1 C.2.1 hd ht (fun hq => absurd hq hP) (fun _ => kk _ h1)) (kf hP)
theorem g_icmp_lt {x y : Int32} {off : Int} {tgt : Nat} (hd : decode M.2.1 pc = .ok (.if_icmp .lt off, 3)) (ht : (pc : Int) + off = (tgt : Int)) (kt : x < y → zG l w M tgt lv rest h Q) (kf : ¬ x < y → zG l w M (pc + 3) lv rest h Q) : zG l w M pc lv (.int y :: .int x :: rest) h Q := by
  by_cases hP : x < y
  · exact zG.go (fun C _ h1 kk => lv_icmp_lt C.1 C.2.1 hd ht (fun _ => kk _ h1) (fun hq => absurd hP hq)) (kt hP)
  · exact zG.go (fun C _ h1 kk => lv_icmp_lt C.1 C.2.1 hd ht (fun hq => absurd hq hP) (fun _ => kk _ h1)) (kf hP)
theorem g_if_ge {x : Int32} {off : Int} {tgt : Nat} (hd : decode M.2.1 pc = .ok (.ifCond .ge off, 3)) (ht : (pc : Int) + off = (tgt : Int)) (kt : 0 ≤ x → zG l w M tgt lv rest h Q) (kf : ¬ 0 ≤ x → zG l w M (pc + 3) lv rest h Q) : zG l w M pc lv (.int x :: rest) h Q := by
  by_cases hP : 0 ≤ x
  · exact zG.go (fun C _ h1 kk => lv_if_ge C.1 C.2.1 hd ht (fun _ => kk _ h1) (fun hq => absurd hP hq)) (kt hP)
  · exact zG.go (fun C _ h1 kk => lv_if_ge C.1 C.2.1 hd ht (fun hq => absurd hq hP) (fun _ => kk _ h1)) (kf hP)
theorem g_icmp_ge {x y : Int32} {off : Int} {tgt : Nat} (hd : decode M.2.1 pc = .ok (.if_icmp .ge off, 3)) (ht : (pc : Int) + off = (tgt : Int)) (kt : y ≤ x → zG l w M tgt lv rest h Q) (kf : ¬ y ≤ x → zG l w M (pc + 3) lv rest h Q) : zG l w M pc lv (.int y :: .int x :: rest) h Q := by
  by_cases hP : y ≤ x
  · exact zG.go (fun C _ h1 kk => lv_icmp_ge C.1 C.2.1 hd ht (fun _ => kk _ h1) (fun hq => absurd hP hq)) (kt hP)
  · exact zG.go (fun C _ h1 kk => lv_icmp_ge C.1 C.2.1 hd ht (fun hq => absurd hq hP) (fun _ => kk _ h1)) (kf hP)
theorem g_if_gt {x : Int32} {off : Int} {tgt : Nat} (hd : decode M.2.1 pc = .ok (.ifCond .gt off, 3)) (ht : (pc : Int) + off = (tgt : Int)) (kt : 0 < x → zG l w M tgt lv rest h Q) (kf : ¬ 0 < x → zG l w M (pc + 3) lv rest h Q) : zG l w M pc lv (.int x :: rest) h Q := by
  by_cases hP : 0 < x
  · exact zG.go (fun C _ h1 kk => lv_if_gt C.1 C.2.1 hd ht (fun _ => kk _ h1) (fun hq => absurd hP hq)) (kt hP)
  · exact zG.go (fun C _ h1 kk => lv_if_gt C.1 C.2.1 hd ht (fun hq => absurd hq hP) (fun _ => kk _ h1)) (kf hP)
theorem g_icmp_gt {x y : Int32} {off : Int} {tgt : Nat} (hd : decode M.2.1 pc = .ok (.if_icmp .gt off, 3)) (ht : (pc : Int) + off = (tgt : Int)) (kt : y < x → zG l w M tgt lv rest h Q) (kf : ¬ y < x → zG l w M (pc + 3) lv rest h Q) : zG l w M pc lv (.int y :: .int x :: rest) h Q := by
  by_cases hP : y < x
  · exact zG.go (fun C _ h1 kk => lv_icmp_gt C.1 C.2.1 hd ht (fun _ => kk _ h1) (fun hq => absurd hP hq)) (kt hP)
  · exact zG.go (fun C _ h1 kk => lv_icmp_gt C.1 C.2.1 hd ht (fun hq => absurd hq hP) (fun _ => kk _ h1)) (kf hP)
theorem g_if_le {x : Int32} {off : Int} {tgt : Nat} (hd : decode M.2.1 pc = .ok (.ifCond .le off, 3)) (ht : (pc : Int) + off = (tgt : Int)) (kt : x ≤ 0 → zG l w M tgt lv rest h Q) (kf : ¬ x ≤ 0 → zG l w M (pc + 3) lv rest h Q) : zG l w M pc lv (.int x :: rest) h Q := by
  by_cases hP : x ≤ 0
  · exact zG.go (fun C _ h1 kk => lv_if_le C.1 C.2.1 hd ht (fun _ => kk _ h1) (fun hq => absurd hP hq)) (kt hP)
  · exact zG.go (fun C _ h1 kk => lv_if_le C.1 C.2.1 hd ht (fun hq => absurd hq hP) (fun _ => kk _ h1)) (kf hP)
theorem g_icmp_le {x y : Int32} {off : Int} {tgt : Nat} (hd : decode M.2.1 pc = .ok (.if_icmp .le off, 3)) (ht : (pc : Int) + off = (tgt : Int)) (kt : x ≤ y → zG l w M tgt lv rest h Q) (kf : ¬ x ≤ y → zG l w M (pc + 3) lv rest h Q) : zG l w M pc lv (.int y :: .int x :: rest) h Q := by
  by_cases hP : x ≤ y
  · exact zG.go (fun C _ h1 kk => lv_icmp_le C.1 C.2.1 hd ht (fun _ => kk _ h1) (fun hq => absurd hP hq)) (kt hP)
  · exact zG.go (fun C _ h1 kk => lv_icmp_le C.1 C.2.1 hd ht (fun hq => absurd hq hP) (fun _ => kk _ h1)) (kf hP)
theorem zx_ret {st : List Value} {v : Option Value} (hW : ∀ {p : Program} {e : Env} {s : State} {m : MethodId} {args : Array Value} {below : List Frame} {meth : Method} {c : Code} {R : Room} {H : Heap} {ls : Array Slot} {locs : List Loc} {cells slots : Nat}, zCtx w M p s m args meth c → (∀ t : State, t.heap = H → s.WarmedH t.vm → zQc w v h args s (.returned v) t) → (∀ q ∈ locs, w.2.2.1 ≤ q.base) →
      W p l e R s m args below meth c H locs cells slots (MQ below (zQc w v h) args s cells slots (fun q => w.2.2.1 ≤ q)) (F0 m pc ls st)) (hQ : Q v h) : zG l w M pc lv st h Q := by
  refine ⟨v, h, ⟨Nat.le_refl _, Nat.le_refl _, fun p e s m args below meth c x0 t0 H ls locs C A => ?_⟩, hQ⟩
  obtain ⟨a1, a2, a3, a4, a5, a6⟩ := A
  exact hW C (fun t ht hw => ⟨rfl, by rw [ht]; exact a1.moved hw.alike, fun q hq => by rw [ht]; exact a2 q hq⟩) a3
theorem g_ireturn {v : Int32} (hd : decode M.2.1 pc = .ok (.ireturn, 1)) (hr : M.2.2.2.1 = some .int) (hQ : Q (some (.int v)) h) : zG l w M pc lv [.int v] h Q :=
  zx_ret (fun C hq hf => W.iret C.1 C.2.1 (by rw [C.2.2.2.1]; exact hr) hq hf hd C.2.2.2.2.1) hQ
theorem g_zreturn {v : Int32} {ty : FieldType} (hd : decode M.2.1 pc = .ok (.ireturn, 1)) (hr : M.2.2.2.1 = some ty) (hn : narrow ty (.int v) = .int v) (hQ : Q (some (.int v)) h) : zG l w M pc lv [.int v] h Q :=
  zx_ret (fun C hq hf => W.zret C.1 C.2.1 (by rw [C.2.2.2.1]; exact hr) hn hq hf hd C.2.2.2.2.1) hQ
theorem g_lreturn {v : Int64} (hd : decode M.2.1 pc = .ok (.lreturn, 1)) (hr : M.2.2.2.1 = some .long) (hQ : Q (some (.long v)) h) : zG l w M pc lv [.long v] h Q :=
  zx_ret (fun C hq hf => W.lret C.1 C.2.1 (by rw [C.2.2.2.1]; exact hr) hq hf hd C.2.2.2.2.1) hQ
theorem g_return (hd : decode M.2.1 pc = .ok (.return_, 1)) (hr : M.2.2.2.1 = none) (hQ : Q none h) : zG l w M pc lv [] h Q :=
  zx_ret (fun C hq hf => W.vret C.1 C.2.1 (by rw [C.2.2.2.1]; exact hr) hq hf hd C.2.2.2.2.1) hQ
end ZG2
