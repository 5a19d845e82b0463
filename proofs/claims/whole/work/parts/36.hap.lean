section M4
variable {l : Launch} {w : zW} {h : zH} {m : Nat} {N : nT} {g : Nat → Int64}
theorem FrM.sg {h : zH} {m : Nat} {g : Nat → Int64} (hg : ∀ i, 5804 ≤ i → g i = zL h (m + 1) i) : FrM m h (zSG h (m + 1) g) :=
  ⟨rfl, rfl, fun _ => rfl, fun _ => rfl, fun _ _ => rfl, fun _ _ => rfl, fun _ _ => rfl, fun _ _ _ => rfl, fun _ _ => rfl, fun a i ha => by show (if a = m + 1 then g i else _) = _; rw [if_neg ha]; rfl, fun i hi => by rw [zL_SG]; exact hg i hi⟩
theorem c_ofG (hM : Mo h m) {k : Nat} (hk : k < 29020) : zM l w mX10_of [.ref m, .int (nI k)] (zSG h (m + 1) g) (fun v h1 => v = some (.long (g k)) ∧ h1 = zSG h (m + 1) g) := by
  have q := c_of (l := l) (w := w) (h := zSG h (m + 1) g) (m := m) hM hk
  rw [zL_SG] at q
  exact q
theorem c_atG (hM : Mo h m) {k : Nat} (hk : k < 29020) : zM l w mX10_at [.ref m, .int (nI k)] (zSG h (m + 1) g) (fun v h1 => v = some (.int (g k).toInt32) ∧ h1 = zSG h (m + 1) g) := by
  have q := c_at (l := l) (w := w) (h := zSG h (m + 1) g) (m := m) hM hk
  rw [zL_SG] at q
  exact q
theorem c_putsG (hM : Mo h m) {k : Nat} {x : Int64} (hk : k < 29020) : zM l w mX10_puts [.ref m, .int (nI k), .long x] (zSG h (m + 1) g) (fun v h1 => v = none ∧ h1 = zSG h (m + 1) (updL g k x)) := by
  have q := c_puts (l := l) (w := w) (h := zSG h (m + 1) g) (m := m) (x := x) hM hk
  rw [zSL_SG] at q
  exact q
theorem c_addsG (hM : Mo h m) {k : Nat} {x : Int64} (hk : k < 29020) : zM l w mX10_adds [.ref m, .int (nI k), .long x] (zSG h (m + 1) g) (fun v h1 => v = none ∧ h1 = zSG h (m + 1) (updL g k (g k + x))) := by
  have q := c_adds (l := l) (w := w) (h := zSG h (m + 1) g) (m := m) (x := x) hM hk
  rw [zSL_SG, zL_SG] at q
  exact q
theorem updL_eq {k : Nat} {v : Int64} : updL g k v k = v := by unfold updL; rw [if_pos rfl]
theorem updL_ne {k j : Nat} {v : Int64} (e : j ≠ k) : updL g k v j = g j := by unfold updL; rw [if_neg e]
theorem hap_tail {Q : Option Value → zH → Prop} (hM : Mo h m) {n : Nat} (hn : g 3 = lN n) (h24 : n < 24) {k q f : Int} (hk : -2147483648 ≤ k ∧ k < 2147483648) (hq : -2147483648 ≤ q ∧ q < 2147483648) (hf : -2147483648 ≤ f ∧ f < 2147483648)
    (hQ : Q none (zSG h (m + 1) (updL (updL (updL (updL (updL g (5588 + 4 * n) (jL k)) (5588 + 4 * n + 1) (g 2)) (5588 + 4 * n + 2) (jL q)) (5588 + 4 * n + 3) (jL f)) 3 ((updL (updL (updL (updL g (5588 + 4 * n) (jL k)) (5588 + 4 * n + 1) (g 2)) (5588 + 4 * n + 2) (jL q)) (5588 + 4 * n + 3) (jL f)) 3 + lN 1)))) : zG l w mX10_happens 53 [(0, .ref m), (1, .int (jI k)), (2, .int (jI q)), (3, .int (jI f))] [] (zSG h (m + 1) g) Q := by
  refine g_sipush (v := nI 5588) dX10_happens_53 (by decide) ?_
  refine g_iconst (v := nI 4) dX10_happens_56 (by decide) ?_
  refine g_aload_n 0 dX10_happens_57 rfl rfl ?_
  refine g_iconst (v := nI 3) dX10_happens_58 (by decide) ?_
  refine g_invv (M' := mX10_at) (As := [.int (nI 3)]) (rest := [.int (nI 4), .int (nI 5588)]) dX10_happens_59 ml_X10_58 okX10_at imX10_at seX10_at ⟨(Nat.le_of_ble_eq_true rfl), (Nat.le_of_ble_eq_true rfl)⟩ (ci := 10) rfl rfl hM.1 rfl rfl (Nat.le_of_ble_eq_true rfl) (c_atG hM (by omega)) ?_
  rintro _ q1 ⟨rfl, eq1⟩
  subst q1
  show zG l w mX10_happens 62 [(0, .ref m), (1, .int (jI k)), (2, .int (jI q)), (3, .int (jI f))] [.int ((g 3).toInt32), .int (nI 4), .int (nI 5588)] (zSG h (m + 1) g) _
  rw [hn, lN_i]
  refine g_imul dX10_happens_62 ?_
  rw [pk_mul 4 n]
  refine g_iadd dX10_happens_63 ?_
  rw [nI_add 5588 (4 * n)]
  refine g_istore (lv2 := [(4, .int (nI (5588 + 4 * n))), (0, .ref m), (1, .int (jI k)), (2, .int (jI q)), (3, .int (jI f))]) dX10_happens_64 (by decide) rfl ?_
  refine g_aload_n 1 dX10_happens_66 rfl rfl ?_
  refine g_iload 0 dX10_happens_67 rfl ?_
  refine g_iload_n 2 dX10_happens_69 rfl rfl ?_
  refine g_i2l dX10_happens_70 ?_
  rw [jI_l (by omega) (by omega)]
  refine g_invv (M' := mX10_puts) (As := [.int (nI (5588 + 4 * n)), .long (jL k)]) (rest := []) dX10_happens_71 ml_X10_40 okX10_puts imX10_puts seX10_puts ⟨(Nat.le_of_ble_eq_true rfl), (Nat.le_of_ble_eq_true rfl)⟩ (ci := 10) rfl rfl hM.1 rfl rfl (Nat.le_of_ble_eq_true rfl) (c_putsG hM (by omega)) ?_
  rintro _ q2 ⟨rfl, eq2⟩
  subst q2
  show zG l w mX10_happens 74 [(4, .int (nI (5588 + 4 * n))), (0, .ref m), (1, .int (jI k)), (2, .int (jI q)), (3, .int (jI f))] [] (zSG h (m + 1) (updL g (5588 + 4 * n) (jL k))) _
  refine g_aload_n 1 dX10_happens_74 rfl rfl ?_
  refine g_iload 0 dX10_happens_75 rfl ?_
  refine g_iconst (v := nI 1) dX10_happens_77 (by decide) ?_
  refine g_iadd dX10_happens_78 ?_
  rw [nI_add (5588 + 4 * n) 1]
  refine g_aload_n 1 dX10_happens_79 rfl rfl ?_
  refine g_iconst (v := nI 2) dX10_happens_80 (by decide) ?_
  refine g_invv (M' := mX10_of) (As := [.int (nI 2)]) (rest := [.int (nI (5588 + 4 * n + 1)), .ref m]) dX10_happens_81 ml_X10_48 okX10_of imX10_of seX10_of ⟨(Nat.le_of_ble_eq_true rfl), (Nat.le_of_ble_eq_true rfl)⟩ (ci := 10) rfl rfl hM.1 rfl rfl (Nat.le_of_ble_eq_true rfl) (c_ofG hM (by omega)) ?_
  rintro _ q3 ⟨rfl, eq3⟩
  subst q3
  show zG l w mX10_happens 84 [(4, .int (nI (5588 + 4 * n))), (0, .ref m), (1, .int (jI k)), (2, .int (jI q)), (3, .int (jI f))] [.long ((updL g (5588 + 4 * n) (jL k)) 2), .int (nI (5588 + 4 * n + 1)), .ref m] (zSG h (m + 1) (updL g (5588 + 4 * n) (jL k))) _
  rw [updL_ne (by omega)]
  refine g_invv (M' := mX10_puts) (As := [.int (nI (5588 + 4 * n + 1)), .long (g 2)]) (rest := []) dX10_happens_84 ml_X10_40 okX10_puts imX10_puts seX10_puts ⟨(Nat.le_of_ble_eq_true rfl), (Nat.le_of_ble_eq_true rfl)⟩ (ci := 10) rfl rfl hM.1 rfl rfl (Nat.le_of_ble_eq_true rfl) (c_putsG hM (by omega)) ?_
  rintro _ q4 ⟨rfl, eq4⟩
  subst q4
  show zG l w mX10_happens 87 [(4, .int (nI (5588 + 4 * n))), (0, .ref m), (1, .int (jI k)), (2, .int (jI q)), (3, .int (jI f))] [] (zSG h (m + 1) (updL (updL g (5588 + 4 * n) (jL k)) (5588 + 4 * n + 1) (g 2))) _
  refine g_aload_n 1 dX10_happens_87 rfl rfl ?_
  refine g_iload 0 dX10_happens_88 rfl ?_
  refine g_iconst (v := nI 2) dX10_happens_90 (by decide) ?_
  refine g_iadd dX10_happens_91 ?_
  rw [nI_add (5588 + 4 * n) 2]
  refine g_iload_n 3 dX10_happens_92 rfl rfl ?_
  refine g_i2l dX10_happens_93 ?_
  rw [jI_l (by omega) (by omega)]
  refine g_invv (M' := mX10_puts) (As := [.int (nI (5588 + 4 * n + 2)), .long (jL q)]) (rest := []) dX10_happens_94 ml_X10_40 okX10_puts imX10_puts seX10_puts ⟨(Nat.le_of_ble_eq_true rfl), (Nat.le_of_ble_eq_true rfl)⟩ (ci := 10) rfl rfl hM.1 rfl rfl (Nat.le_of_ble_eq_true rfl) (c_putsG hM (by omega)) ?_
  rintro _ q5 ⟨rfl, eq5⟩
  subst q5
  show zG l w mX10_happens 97 [(4, .int (nI (5588 + 4 * n))), (0, .ref m), (1, .int (jI k)), (2, .int (jI q)), (3, .int (jI f))] [] (zSG h (m + 1) (updL (updL (updL g (5588 + 4 * n) (jL k)) (5588 + 4 * n + 1) (g 2)) (5588 + 4 * n + 2) (jL q))) _
  refine g_aload_n 1 dX10_happens_97 rfl rfl ?_
  refine g_iload 0 dX10_happens_98 rfl ?_
  refine g_iconst (v := nI 3) dX10_happens_100 (by decide) ?_
  refine g_iadd dX10_happens_101 ?_
  rw [nI_add (5588 + 4 * n) 3]
  refine g_iload_n 4 dX10_happens_102 rfl rfl ?_
  refine g_i2l dX10_happens_103 ?_
  rw [jI_l (by omega) (by omega)]
  refine g_invv (M' := mX10_puts) (As := [.int (nI (5588 + 4 * n + 3)), .long (jL f)]) (rest := []) dX10_happens_104 ml_X10_40 okX10_puts imX10_puts seX10_puts ⟨(Nat.le_of_ble_eq_true rfl), (Nat.le_of_ble_eq_true rfl)⟩ (ci := 10) rfl rfl hM.1 rfl rfl (Nat.le_of_ble_eq_true rfl) (c_putsG hM (by omega)) ?_
  rintro _ q6 ⟨rfl, eq6⟩
  subst q6
  show zG l w mX10_happens 107 [(4, .int (nI (5588 + 4 * n))), (0, .ref m), (1, .int (jI k)), (2, .int (jI q)), (3, .int (jI f))] [] (zSG h (m + 1) (updL (updL (updL (updL g (5588 + 4 * n) (jL k)) (5588 + 4 * n + 1) (g 2)) (5588 + 4 * n + 2) (jL q)) (5588 + 4 * n + 3) (jL f))) _
  refine g_aload_n 1 dX10_happens_107 rfl rfl ?_
  refine g_iconst (v := nI 3) dX10_happens_108 (by decide) ?_
  refine g_lconst (v := lN 1) dX10_happens_109 (by decide) ?_
  refine g_invv (M' := mX10_adds) (As := [.int (nI 3), .long (lN 1)]) (rest := []) dX10_happens_110 ml_X10_76 okX10_adds imX10_adds seX10_adds ⟨(Nat.le_of_ble_eq_true rfl), (Nat.le_of_ble_eq_true rfl)⟩ (ci := 10) rfl rfl hM.1 rfl rfl (Nat.le_of_ble_eq_true rfl) (c_addsG hM (by omega)) ?_
  rintro _ q7 ⟨rfl, eq7⟩
  subst q7
  show zG l w mX10_happens 113 [(4, .int (nI (5588 + 4 * n))), (0, .ref m), (1, .int (jI k)), (2, .int (jI q)), (3, .int (jI f))] [] (zSG h (m + 1) (updL (updL (updL (updL (updL g (5588 + 4 * n) (jL k)) (5588 + 4 * n + 1) (g 2)) (5588 + 4 * n + 2) (jL q)) (5588 + 4 * n + 3) (jL f)) 3 ((updL (updL (updL (updL g (5588 + 4 * n) (jL k)) (5588 + 4 * n + 1) (g 2)) (5588 + 4 * n + 2) (jL q)) (5588 + 4 * n + 3) (jL f)) 3 + lN 1))) _
  refine g_return dX10_happens_113 rfl ?_
  exact hQ
theorem hap_rel (r : MoR g N) (hF : nFit N) (hE : (nE N).length < 24) (k q f : Int) : MoR (updL (updL (updL (updL (updL g (5588 + 4 * (nE N).length) (jL k)) (5588 + 4 * (nE N).length + 1) (g 2)) (5588 + 4 * (nE N).length + 2) (jL q)) (5588 + 4 * (nE N).length + 3) (jL f)) 3 ((updL (updL (updL (updL g (5588 + 4 * (nE N).length) (jL k)) (5588 + 4 * (nE N).length + 1) (g 2)) (5588 + 4 * (nE N).length + 2) (jL q)) (5588 + 4 * (nE N).length + 3) (jL f)) 3 + lN 1)) (uE N (nE N ++ [(k, nA N 2, q, f)])) := by
  have h2 : g 2 = jL (nA N 2) := r.1 2 (by omega) (by unfold nSp; omega)
  have h3 : g 3 = lN (nE N).length := r.2.1.1
  have e3 : (updL (updL (updL (updL g (5588 + 4 * (nE N).length) (jL k)) (5588 + 4 * (nE N).length + 1) (g 2)) (5588 + 4 * (nE N).length + 2) (jL q)) (5588 + 4 * (nE N).length + 3) (jL f)) 3 + lN 1 = lN ((nE N).length + 1) := by
    rw [updL_ne (by omega), updL_ne (by omega), updL_ne (by omega), updL_ne (by omega), h3, lN_add]
  rw [e3]
  have ro : MoR (updL (updL (updL (updL g (5588 + 4 * (nE N).length) (jL k)) (5588 + 4 * (nE N).length + 1) (g 2)) (5588 + 4 * (nE N).length + 2) (jL q)) (5588 + 4 * (nE N).length + 3) (jL f)) N := by
    refine r.off (fun j hj => ?_) (fun l hl i hi => ?_) (fun l hl i hi => ?_) (fun i hi => ?_) (fun i hi => ?_) (fun i hi => ?_)
    · rw [updL_ne (by omega), updL_ne (by omega), updL_ne (by omega), updL_ne (by omega)]
    · have := (hF.1 l hl).1
      rw [updL_ne (by omega), updL_ne (by omega), updL_ne (by omega), updL_ne (by omega)]
    · have := (hF.1 l hl).2
      rw [updL_ne (by omega), updL_ne (by omega), updL_ne (by omega), updL_ne (by omega)]
    · have := hF.2.1
      rw [updL_ne (by omega), updL_ne (by omega), updL_ne (by omega), updL_ne (by omega)]
    · rw [updL_ne (by omega), updL_ne (by omega), updL_ne (by omega), updL_ne (by omega)]
    · rw [updL_ne (by omega), updL_ne (by omega), updL_ne (by omega), updL_ne (by omega)]
  exact ro.pushE (e := (k, nA N 2, q, f)) (by rw [updL_ne (by omega), updL_ne (by omega), updL_ne (by omega), updL_eq]) (by rw [updL_ne (by omega), updL_ne (by omega), updL_eq, h2]) (by rw [updL_ne (by omega), updL_eq]) (by rw [updL_eq])
theorem c_happensG (hM : Mo h m) (r : MoR g N) (hF : nFit N) {k q f : Int} (hk : -2147483648 ≤ k ∧ k < 2147483648) (hq : -2147483648 ≤ q ∧ q < 2147483648) (hf : -2147483648 ≤ f ∧ f < 2147483648) : zM l w mX10_happens [.ref m, .int (jI k), .int (jI q), .int (jI f)] (zSG h (m + 1) g) (fun v h1 => v = none ∧ ∃ g1, h1 = zSG h (m + 1) g1 ∧ MoR g1 (evN N k q f) ∧ ∀ i, 5804 ≤ i → g1 i = g i) := by
  refine zM.of (by decide) (Nat.le_of_ble_eq_true rfl) ?_
  have h3 : g 3 = lN (nE N).length := r.2.1.1
  have h24 := hF.2.2.1
  refine g_aload_n 0 dX10_happens_0 rfl rfl ?_
  refine g_iconst (v := nI 3) dX10_happens_1 (by decide) ?_
  refine g_invv (M' := mX10_of) (As := [.int (nI 3)]) (rest := []) dX10_happens_2 ml_X10_48 okX10_of imX10_of seX10_of ⟨(Nat.le_of_ble_eq_true rfl), (Nat.le_of_ble_eq_true rfl)⟩ (ci := 10) rfl rfl hM.1 rfl rfl (Nat.le_of_ble_eq_true rfl) (c_ofG hM (by omega)) ?_
  rintro _ q1 ⟨rfl, eq1⟩
  subst q1
  show zG l w mX10_happens 5 [(0, .ref m), (1, .int (jI k)), (2, .int (jI q)), (3, .int (jI f))] [.long (g 3)] (zSG h (m + 1) g) _
  rw [h3, ← jL_nat]
  refine g_ldc2J (z := 24) dX10_happens_5 kl_X10_72 (by decide) ?_
  refine g_lif_ne (a := ((nE N).length : Int)) (b := 24) (tgt := 53) dX10_happens_8 rfl dX10_happens_9 (by decide) (by omega) (by omega) (fun c => ?_) (fun c => ?_)
  · refine hap_tail hM h3 (by omega) hk hq hf ⟨rfl, _, rfl, ?_, fun i hi => ?_⟩
    · rw [evN, if_neg (by omega)]
      exact hap_rel r hF (by omega) k q f
    · rw [updL_ne (by omega), updL_ne (by omega), updL_ne (by omega), updL_ne (by omega), updL_ne (by omega)]
  · have hs : MoR (updL (shE g 5680) 3 (lN 23)) (uE N ((nE N).drop 1)) := r.dropE hF (by omega)
    have hF1 : nFit (uE N ((nE N).drop 1)) := ⟨hF.1, hF.2.1, by rw [nE_uE, List.length_drop]; omega, hF.2.2.2⟩
    have h23 : (nE (uE N ((nE N).drop 1))).length = 23 := by rw [nE_uE, List.length_drop]; omega
    have h39 : g 3 = lN 24 := by rw [h3, show (nE N).length = 24 by omega]
    have loop : ∀ n i : Nat, i + n = 5680 → 5588 ≤ i → zG l w mX10_happens 17 [(4, .int (nI i)), (0, .ref m), (1, .int (jI k)), (2, .int (jI q)), (3, .int (jI f))] [] (zSG h (m + 1) (shE g i)) (fun v h1 => v = none ∧ ∃ g1, h1 = zSG h (m + 1) g1 ∧ MoR g1 (evN N k q f) ∧ ∀ i, 5804 ≤ i → g1 i = g i) := by
      intro n
      induction n with
      | zero =>
        intro i hi h0
        refine g_iload 0 dX10_happens_17 rfl ?_
        refine g_sipush (v := nI 5680) dX10_happens_19 (by decide) ?_
        refine g_ncmp_ge (tgt := 45) dX10_happens_22 (by decide) (by omega) (by omega) (fun c => ?_) (fun c => ?_)
        · have hi : i = 5680 := by omega
          subst hi
          refine g_aload_n 1 dX10_happens_45 rfl rfl ?_
          refine g_iconst (v := nI 3) dX10_happens_46 (by decide) ?_
          refine g_ldc2J (z := (-1)) dX10_happens_47 kl_X10_74 (by decide) ?_
          refine g_invv (M' := mX10_adds) (As := [.int (nI 3), .long (jL (-1))]) (rest := []) dX10_happens_50 ml_X10_76 okX10_adds imX10_adds seX10_adds ⟨(Nat.le_of_ble_eq_true rfl), (Nat.le_of_ble_eq_true rfl)⟩ (ci := 10) rfl rfl hM.1 rfl rfl (Nat.le_of_ble_eq_true rfl) (c_addsG hM (by omega)) ?_
          rintro _ q1 ⟨rfl, eq1⟩
          subst q1
          show zG l w mX10_happens 53 [(4, .int (nI 5680)), (0, .ref m), (1, .int (jI k)), (2, .int (jI q)), (3, .int (jI f))] [] (zSG h (m + 1) (updL (shE g 5680) 3 ((shE g 5680) 3 + jL (-1)))) _
          rw [show (shE g 5680) 3 + jL (-1) = lN 23 by rw [show shE g 5680 3 = lN 24 by unfold shE; rw [if_neg (by omega)]; exact h39]; decide]
          refine zG.sub [1, 2, 3, 4] rfl ?_
          refine hap_tail hM (n := 23) updL_eq (by omega) hk hq hf ⟨rfl, _, rfl, ?_, fun i hi => ?_⟩
          · have e9 := hap_rel hs hF1 (by omega) k q f
            rw [h23] at e9
            rw [evN, if_pos (by omega)]
            exact e9
          · rw [updL_ne (by omega), updL_ne (by omega), updL_ne (by omega), updL_ne (by omega), updL_ne (by omega), updL_ne (by omega)]
            unfold shE; rw [if_neg (by omega)]
        · exact absurd c (by omega)
      | succ n ih =>
        intro i hi h0
        refine g_iload 0 dX10_happens_17 rfl ?_
        refine g_sipush (v := nI 5680) dX10_happens_19 (by decide) ?_
        refine g_ncmp_ge (tgt := 45) dX10_happens_22 (by decide) (by omega) (by omega) (fun c => ?_) (fun c => ?_)
        · exact absurd c (by omega)
        · refine g_aload_n 1 dX10_happens_25 rfl rfl ?_
          refine g_iload 0 dX10_happens_26 rfl ?_
          refine g_aload_n 1 dX10_happens_28 rfl rfl ?_
          refine g_iload 0 dX10_happens_29 rfl ?_
          refine g_iconst (v := nI 4) dX10_happens_31 (by decide) ?_
          refine g_iadd dX10_happens_32 ?_
          rw [nI_add i 4]
          refine g_invv (M' := mX10_of) (As := [.int (nI (i + 4))]) (rest := [.int (nI i), .ref m]) dX10_happens_33 ml_X10_48 okX10_of imX10_of seX10_of ⟨(Nat.le_of_ble_eq_true rfl), (Nat.le_of_ble_eq_true rfl)⟩ (ci := 10) rfl rfl hM.1 rfl rfl (Nat.le_of_ble_eq_true rfl) (c_ofG hM (by omega)) ?_
          rintro _ q2 ⟨rfl, eq2⟩
          subst q2
          show zG l w mX10_happens 36 [(4, .int (nI i)), (0, .ref m), (1, .int (jI k)), (2, .int (jI q)), (3, .int (jI f))] [.long (shE g i (i + 4)), .int (nI i), .ref m] (zSG h (m + 1) (shE g i)) _
          refine g_invv (M' := mX10_puts) (As := [.int (nI i), .long (shE g i (i + 4))]) (rest := []) dX10_happens_36 ml_X10_40 okX10_puts imX10_puts seX10_puts ⟨(Nat.le_of_ble_eq_true rfl), (Nat.le_of_ble_eq_true rfl)⟩ (ci := 10) rfl rfl hM.1 rfl rfl (Nat.le_of_ble_eq_true rfl) (c_putsG hM (by omega)) ?_
          rintro _ q3 ⟨rfl, eq3⟩
          subst q3
          show zG l w mX10_happens 39 [(4, .int (nI i)), (0, .ref m), (1, .int (jI k)), (2, .int (jI q)), (3, .int (jI f))] [] (zSG h (m + 1) (updL (shE g i) i (shE g i (i + 4)))) _
          rw [shE_succ g h0]
          refine g_inc (v := nI (i + 1)) (lv2 := [(4, .int (nI (i + 1))), (0, .ref m), (1, .int (jI k)), (2, .int (jI q)), (3, .int (jI f))]) 0 dX10_happens_39 rfl (nI_add _ 1) (by decide) rfl ?_
          refine g_goto (tgt := 17) dX10_happens_42 (by decide) ?_
          exact ih (i + 1) (by omega) (by omega)
    refine g_sipush (v := nI 5588) dX10_happens_12 (by decide) ?_
    refine g_istore (lv2 := [(4, .int (nI 5588)), (0, .ref m), (1, .int (jI k)), (2, .int (jI q)), (3, .int (jI f))]) dX10_happens_15 (by decide) rfl ?_
    have e0 : shE g 5588 = g := by funext j; unfold shE; rw [if_neg (by omega)]
    have e1 := loop 92 5588 (by omega) (by omega)
    rw [e0] at e1
    exact e1
theorem c_happens (r : MoN h m N) (hF : nFit N) {k q f : Int} (hk : -2147483648 ≤ k ∧ k < 2147483648) (hq : -2147483648 ≤ q ∧ q < 2147483648) (hf : -2147483648 ≤ f ∧ f < 2147483648) : zM l w mX10_happens [.ref m, .int (jI k), .int (jI q), .int (jI f)] h (fun v h1 => v = none ∧ MoN h1 m (evN N k q f) ∧ FrM m h h1) := by
  have e := c_happensG (l := l) (w := w) (h := h) (m := m) (g := zL h (m + 1)) r.1 r.2.1 hF hk hq hf
  rw [zSG_id] at e
  refine e.mono ?_
  rintro v h1 ⟨rfl, g1, rfl, h2, h3⟩
  exact ⟨rfl, ⟨r.1, by rw [zL_SG]; exact h2, r.2.2⟩, FrM.sg h3⟩
end M4
