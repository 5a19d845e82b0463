theorem z_in {i : Nat} {w : Cond} (h : lw_tbl[i]? = some w) (g : goodWord w = true) : w ∈ lw_all := lw_in h g
theorem zc_0 : zCls 0 RX0 TX0 3 tyX0 := ⟨rfl, fun x hx => by
  obtain ⟨k, hk, rfl⟩ := List.mem_map.mp hx
  have hk := List.mem_range.mp hk
  have hs : ∃ i : Nat, lw_tbl[i]? = some (u_lay RX0 TX0 k) ∧ goodWord (u_lay RX0 TX0 k) = true := by
    rcases (show k = 0 ∨ k = 1 ∨ k = 2 by omega) with rfl | rfl | rfl
    · exact ⟨420, by decide +kernel, by decide +kernel⟩
    · exact ⟨422, by decide +kernel, by decide +kernel⟩
    · exact ⟨424, by decide +kernel, by decide +kernel⟩
  obtain ⟨i, h1, h2⟩ := hs
  exact lw_in h1 h2, tyX0_ok, nmX0⟩
theorem zc_1 : zCls 1 RX1 TX1 6 tyX1 := ⟨rfl, fun x hx => by
  obtain ⟨k, hk, rfl⟩ := List.mem_map.mp hx
  have hk := List.mem_range.mp hk
  have hs : ∃ i : Nat, lw_tbl[i]? = some (u_lay RX1 TX1 k) ∧ goodWord (u_lay RX1 TX1 k) = true := by
    rcases (show k = 0 ∨ k = 1 ∨ k = 2 ∨ k = 3 ∨ k = 4 ∨ k = 5 by omega) with rfl | rfl | rfl | rfl | rfl | rfl
    · exact ⟨144, by decide +kernel, by decide +kernel⟩
    · exact ⟨146, by decide +kernel, by decide +kernel⟩
    · exact ⟨148, by decide +kernel, by decide +kernel⟩
    · exact ⟨150, by decide +kernel, by decide +kernel⟩
    · exact ⟨152, by decide +kernel, by decide +kernel⟩
    · exact ⟨154, by decide +kernel, by decide +kernel⟩
  obtain ⟨i, h1, h2⟩ := hs
  exact lw_in h1 h2, tyX1_ok, nmX1⟩
theorem zc_2 : zCls 2 RX2 TX2 12 tyX2 := ⟨rfl, fun x hx => by
  obtain ⟨k, hk, rfl⟩ := List.mem_map.mp hx
  have hk := List.mem_range.mp hk
  have hs : ∃ i : Nat, lw_tbl[i]? = some (u_lay RX2 TX2 k) ∧ goodWord (u_lay RX2 TX2 k) = true := by
    rcases (show k = 0 ∨ k = 1 ∨ k = 2 ∨ k = 3 ∨ k = 4 ∨ k = 5 ∨ k = 6 ∨ k = 7 ∨ k = 8 ∨ k = 9 ∨ k = 10 ∨ k = 11 by omega) with rfl | rfl | rfl | rfl | rfl | rfl | rfl | rfl | rfl | rfl | rfl | rfl
    · exact ⟨300, by decide +kernel, by decide +kernel⟩
    · exact ⟨302, by decide +kernel, by decide +kernel⟩
    · exact ⟨304, by decide +kernel, by decide +kernel⟩
    · exact ⟨306, by decide +kernel, by decide +kernel⟩
    · exact ⟨308, by decide +kernel, by decide +kernel⟩
    · exact ⟨310, by decide +kernel, by decide +kernel⟩
    · exact ⟨312, by decide +kernel, by decide +kernel⟩
    · exact ⟨314, by decide +kernel, by decide +kernel⟩
    · exact ⟨316, by decide +kernel, by decide +kernel⟩
    · exact ⟨318, by decide +kernel, by decide +kernel⟩
    · exact ⟨320, by decide +kernel, by decide +kernel⟩
    · exact ⟨322, by decide +kernel, by decide +kernel⟩
  obtain ⟨i, h1, h2⟩ := hs
  exact lw_in h1 h2, tyX2_ok, nmX2⟩
theorem zc_3 : zCls 3 RX3 TX3 3 tyX3 := ⟨rfl, fun x hx => by
  obtain ⟨k, hk, rfl⟩ := List.mem_map.mp hx
  have hk := List.mem_range.mp hk
  have hs : ∃ i : Nat, lw_tbl[i]? = some (u_lay RX3 TX3 k) ∧ goodWord (u_lay RX3 TX3 k) = true := by
    rcases (show k = 0 ∨ k = 1 ∨ k = 2 by omega) with rfl | rfl | rfl
    · exact ⟨123, by decide +kernel, by decide +kernel⟩
    · exact ⟨125, by decide +kernel, by decide +kernel⟩
    · exact ⟨127, by decide +kernel, by decide +kernel⟩
  obtain ⟨i, h1, h2⟩ := hs
  exact lw_in h1 h2, tyX3_ok, nmX3⟩
theorem zc_4 : zCls 4 RX4 TX4 17 tyX4 := ⟨rfl, fun x hx => by
  obtain ⟨k, hk, rfl⟩ := List.mem_map.mp hx
  have hk := List.mem_range.mp hk
  have hs : ∃ i : Nat, lw_tbl[i]? = some (u_lay RX4 TX4 k) ∧ goodWord (u_lay RX4 TX4 k) = true := by
    rcases (show k = 0 ∨ k = 1 ∨ k = 2 ∨ k = 3 ∨ k = 4 ∨ k = 5 ∨ k = 6 ∨ k = 7 ∨ k = 8 ∨ k = 9 ∨ k = 10 ∨ k = 11 ∨ k = 12 ∨ k = 13 ∨ k = 14 ∨ k = 15 ∨ k = 16 by omega) with rfl | rfl | rfl | rfl | rfl | rfl | rfl | rfl | rfl | rfl | rfl | rfl | rfl | rfl | rfl | rfl | rfl
    · exact ⟨226, by decide +kernel, by decide +kernel⟩
    · exact ⟨228, by decide +kernel, by decide +kernel⟩
    · exact ⟨230, by decide +kernel, by decide +kernel⟩
    · exact ⟨232, by decide +kernel, by decide +kernel⟩
    · exact ⟨234, by decide +kernel, by decide +kernel⟩
    · exact ⟨236, by decide +kernel, by decide +kernel⟩
    · exact ⟨238, by decide +kernel, by decide +kernel⟩
    · exact ⟨240, by decide +kernel, by decide +kernel⟩
    · exact ⟨242, by decide +kernel, by decide +kernel⟩
    · exact ⟨244, by decide +kernel, by decide +kernel⟩
    · exact ⟨246, by decide +kernel, by decide +kernel⟩
    · exact ⟨248, by decide +kernel, by decide +kernel⟩
    · exact ⟨250, by decide +kernel, by decide +kernel⟩
    · exact ⟨252, by decide +kernel, by decide +kernel⟩
    · exact ⟨254, by decide +kernel, by decide +kernel⟩
    · exact ⟨256, by decide +kernel, by decide +kernel⟩
    · exact ⟨258, by decide +kernel, by decide +kernel⟩
  obtain ⟨i, h1, h2⟩ := hs
  exact lw_in h1 h2, tyX4_ok, nmX4⟩
theorem zc_5 : zCls 5 RX5 TX5 12 tyX5 := ⟨rfl, fun x hx => by
  obtain ⟨k, hk, rfl⟩ := List.mem_map.mp hx
  have hk := List.mem_range.mp hk
  have hs : ∃ i : Nat, lw_tbl[i]? = some (u_lay RX5 TX5 k) ∧ goodWord (u_lay RX5 TX5 k) = true := by
    rcases (show k = 0 ∨ k = 1 ∨ k = 2 ∨ k = 3 ∨ k = 4 ∨ k = 5 ∨ k = 6 ∨ k = 7 ∨ k = 8 ∨ k = 9 ∨ k = 10 ∨ k = 11 by omega) with rfl | rfl | rfl | rfl | rfl | rfl | rfl | rfl | rfl | rfl | rfl | rfl
    · exact ⟨346, by decide +kernel, by decide +kernel⟩
    · exact ⟨348, by decide +kernel, by decide +kernel⟩
    · exact ⟨350, by decide +kernel, by decide +kernel⟩
    · exact ⟨352, by decide +kernel, by decide +kernel⟩
    · exact ⟨354, by decide +kernel, by decide +kernel⟩
    · exact ⟨356, by decide +kernel, by decide +kernel⟩
    · exact ⟨358, by decide +kernel, by decide +kernel⟩
    · exact ⟨360, by decide +kernel, by decide +kernel⟩
    · exact ⟨362, by decide +kernel, by decide +kernel⟩
    · exact ⟨364, by decide +kernel, by decide +kernel⟩
    · exact ⟨366, by decide +kernel, by decide +kernel⟩
    · exact ⟨368, by decide +kernel, by decide +kernel⟩
  obtain ⟨i, h1, h2⟩ := hs
  exact lw_in h1 h2, tyX5_ok, nmX5⟩
theorem zc_6 : zCls 6 RX6 TX6 10 tyX6 := ⟨rfl, fun x hx => by
  obtain ⟨k, hk, rfl⟩ := List.mem_map.mp hx
  have hk := List.mem_range.mp hk
  have hs : ∃ i : Nat, lw_tbl[i]? = some (u_lay RX6 TX6 k) ∧ goodWord (u_lay RX6 TX6 k) = true := by
    rcases (show k = 0 ∨ k = 1 ∨ k = 2 ∨ k = 3 ∨ k = 4 ∨ k = 5 ∨ k = 6 ∨ k = 7 ∨ k = 8 ∨ k = 9 by omega) with rfl | rfl | rfl | rfl | rfl | rfl | rfl | rfl | rfl | rfl
    · exact ⟨1003, by decide +kernel, by decide +kernel⟩
    · exact ⟨1005, by decide +kernel, by decide +kernel⟩
    · exact ⟨1007, by decide +kernel, by decide +kernel⟩
    · exact ⟨1009, by decide +kernel, by decide +kernel⟩
    · exact ⟨1011, by decide +kernel, by decide +kernel⟩
    · exact ⟨1013, by decide +kernel, by decide +kernel⟩
    · exact ⟨1015, by decide +kernel, by decide +kernel⟩
    · exact ⟨1017, by decide +kernel, by decide +kernel⟩
    · exact ⟨1019, by decide +kernel, by decide +kernel⟩
    · exact ⟨1021, by decide +kernel, by decide +kernel⟩
  obtain ⟨i, h1, h2⟩ := hs
  exact lw_in h1 h2, tyX6_ok, nmX6⟩
theorem zc_7 : zCls 7 RX7 TX7 6 tyX7 := ⟨rfl, fun x hx => by
  obtain ⟨k, hk, rfl⟩ := List.mem_map.mp hx
  have hk := List.mem_range.mp hk
  have hs : ∃ i : Nat, lw_tbl[i]? = some (u_lay RX7 TX7 k) ∧ goodWord (u_lay RX7 TX7 k) = true := by
    rcases (show k = 0 ∨ k = 1 ∨ k = 2 ∨ k = 3 ∨ k = 4 ∨ k = 5 by omega) with rfl | rfl | rfl | rfl | rfl | rfl
    · exact ⟨185, by decide +kernel, by decide +kernel⟩
    · exact ⟨187, by decide +kernel, by decide +kernel⟩
    · exact ⟨189, by decide +kernel, by decide +kernel⟩
    · exact ⟨191, by decide +kernel, by decide +kernel⟩
    · exact ⟨193, by decide +kernel, by decide +kernel⟩
    · exact ⟨195, by decide +kernel, by decide +kernel⟩
  obtain ⟨i, h1, h2⟩ := hs
  exact lw_in h1 h2, tyX7_ok, nmX7⟩
theorem zc_8 : zCls 8 RX8 TX8 10 tyX8 := ⟨rfl, fun x hx => by
  obtain ⟨k, hk, rfl⟩ := List.mem_map.mp hx
  have hk := List.mem_range.mp hk
  have hs : ∃ i : Nat, lw_tbl[i]? = some (u_lay RX8 TX8 k) ∧ goodWord (u_lay RX8 TX8 k) = true := by
    rcases (show k = 0 ∨ k = 1 ∨ k = 2 ∨ k = 3 ∨ k = 4 ∨ k = 5 ∨ k = 6 ∨ k = 7 ∨ k = 8 ∨ k = 9 by omega) with rfl | rfl | rfl | rfl | rfl | rfl | rfl | rfl | rfl | rfl
    · exact ⟨390, by decide +kernel, by decide +kernel⟩
    · exact ⟨392, by decide +kernel, by decide +kernel⟩
    · exact ⟨394, by decide +kernel, by decide +kernel⟩
    · exact ⟨396, by decide +kernel, by decide +kernel⟩
    · exact ⟨398, by decide +kernel, by decide +kernel⟩
    · exact ⟨400, by decide +kernel, by decide +kernel⟩
    · exact ⟨402, by decide +kernel, by decide +kernel⟩
    · exact ⟨404, by decide +kernel, by decide +kernel⟩
    · exact ⟨406, by decide +kernel, by decide +kernel⟩
    · exact ⟨408, by decide +kernel, by decide +kernel⟩
  obtain ⟨i, h1, h2⟩ := hs
  exact lw_in h1 h2, tyX8_ok, nmX8⟩
theorem zc_9 : zCls 9 RX9 TX9 11 tyX9 := ⟨rfl, fun x hx => by
  obtain ⟨k, hk, rfl⟩ := List.mem_map.mp hx
  have hk := List.mem_range.mp hk
  have hs : ∃ i : Nat, lw_tbl[i]? = some (u_lay RX9 TX9 k) ∧ goodWord (u_lay RX9 TX9 k) = true := by
    rcases (show k = 0 ∨ k = 1 ∨ k = 2 ∨ k = 3 ∨ k = 4 ∨ k = 5 ∨ k = 6 ∨ k = 7 ∨ k = 8 ∨ k = 9 ∨ k = 10 by omega) with rfl | rfl | rfl | rfl | rfl | rfl | rfl | rfl | rfl | rfl | rfl
    · exact ⟨439, by decide +kernel, by decide +kernel⟩
    · exact ⟨441, by decide +kernel, by decide +kernel⟩
    · exact ⟨443, by decide +kernel, by decide +kernel⟩
    · exact ⟨445, by decide +kernel, by decide +kernel⟩
    · exact ⟨447, by decide +kernel, by decide +kernel⟩
    · exact ⟨449, by decide +kernel, by decide +kernel⟩
    · exact ⟨451, by decide +kernel, by decide +kernel⟩
    · exact ⟨453, by decide +kernel, by decide +kernel⟩
    · exact ⟨455, by decide +kernel, by decide +kernel⟩
    · exact ⟨457, by decide +kernel, by decide +kernel⟩
    · exact ⟨459, by decide +kernel, by decide +kernel⟩
  obtain ⟨i, h1, h2⟩ := hs
  exact lw_in h1 h2, tyX9_ok, nmX9⟩
theorem zc_10 : zCls 10 RX10 TX10 18 tyX10 := ⟨rfl, fun x hx => by
  obtain ⟨k, hk, rfl⟩ := List.mem_map.mp hx
  have hk := List.mem_range.mp hk
  have hs : ∃ i : Nat, lw_tbl[i]? = some (u_lay RX10 TX10 k) ∧ goodWord (u_lay RX10 TX10 k) = true := by
    rcases (show k = 0 ∨ k = 1 ∨ k = 2 ∨ k = 3 ∨ k = 4 ∨ k = 5 ∨ k = 6 ∨ k = 7 ∨ k = 8 ∨ k = 9 ∨ k = 10 ∨ k = 11 ∨ k = 12 ∨ k = 13 ∨ k = 14 ∨ k = 15 ∨ k = 16 ∨ k = 17 by omega) with rfl | rfl | rfl | rfl | rfl | rfl | rfl | rfl | rfl | rfl | rfl | rfl | rfl | rfl | rfl | rfl | rfl | rfl
    · exact ⟨1252, by decide +kernel, by decide +kernel⟩
    · exact ⟨1254, by decide +kernel, by decide +kernel⟩
    · exact ⟨1256, by decide +kernel, by decide +kernel⟩
    · exact ⟨1258, by decide +kernel, by decide +kernel⟩
    · exact ⟨1260, by decide +kernel, by decide +kernel⟩
    · exact ⟨1262, by decide +kernel, by decide +kernel⟩
    · exact ⟨1264, by decide +kernel, by decide +kernel⟩
    · exact ⟨1266, by decide +kernel, by decide +kernel⟩
    · exact ⟨1268, by decide +kernel, by decide +kernel⟩
    · exact ⟨1270, by decide +kernel, by decide +kernel⟩
    · exact ⟨1272, by decide +kernel, by decide +kernel⟩
    · exact ⟨1274, by decide +kernel, by decide +kernel⟩
    · exact ⟨1276, by decide +kernel, by decide +kernel⟩
    · exact ⟨1278, by decide +kernel, by decide +kernel⟩
    · exact ⟨1280, by decide +kernel, by decide +kernel⟩
    · exact ⟨1282, by decide +kernel, by decide +kernel⟩
    · exact ⟨1284, by decide +kernel, by decide +kernel⟩
    · exact ⟨1286, by decide +kernel, by decide +kernel⟩
  obtain ⟨i, h1, h2⟩ := hs
  exact lw_in h1 h2, tyX10_ok, nmX10⟩
theorem fl_X9_9 : zFld RX9 9 9 0 2 true := ⟨RX9, TX9, 11, tyX9, zc_9, by decide, lw_in (i := 428) (by decide +kernel) (by decide +kernel), rfl, by decide, Or.inr (Or.inr (Or.inr ⟨rfl, Or.inr ⟨_, rfl⟩⟩)), rfl⟩
theorem fl_X9_13 : zFld RX9 13 9 3 0 false := ⟨RX9, TX9, 11, tyX9, zc_9, by decide, lw_in (i := 431) (by decide +kernel) (by decide +kernel), rfl, by decide, Or.inl ⟨rfl, rfl⟩, rfl⟩
theorem fl_X9_17 : zFld RX9 17 9 4 0 false := ⟨RX9, TX9, 11, tyX9, zc_9, by decide, lw_in (i := 432) (by decide +kernel) (by decide +kernel), rfl, by decide, Or.inl ⟨rfl, rfl⟩, rfl⟩
theorem fl_X9_23 : zFld RX9 23 9 5 2 false := ⟨RX9, TX9, 11, tyX9, zc_9, by decide, lw_in (i := 433) (by decide +kernel) (by decide +kernel), rfl, by decide, Or.inr (Or.inr (Or.inr ⟨rfl, Or.inl ⟨_, rfl⟩⟩)), rfl⟩
theorem fl_X9_27 : zFld RX9 27 9 6 2 false := ⟨RX9, TX9, 11, tyX9, zc_9, by decide, lw_in (i := 434) (by decide +kernel) (by decide +kernel), rfl, by decide, Or.inr (Or.inr (Or.inr ⟨rfl, Or.inl ⟨_, rfl⟩⟩)), rfl⟩
theorem fl_X9_30 : zFld RX9 30 9 7 2 true := ⟨RX9, TX9, 11, tyX9, zc_9, by decide, lw_in (i := 435) (by decide +kernel) (by decide +kernel), rfl, by decide, Or.inr (Or.inr (Or.inr ⟨rfl, Or.inr ⟨_, rfl⟩⟩)), rfl⟩
theorem fl_X9_37 : zFld RX9 37 9 9 2 true := ⟨RX9, TX9, 11, tyX9, zc_9, by decide, lw_in (i := 437) (by decide +kernel) (by decide +kernel), rfl, by decide, Or.inr (Or.inr (Or.inr ⟨rfl, Or.inl ⟨_, rfl⟩⟩)), rfl⟩
theorem fl_X9_44 : zFld RX9 44 9 10 2 true := ⟨RX9, TX9, 11, tyX9, zc_9, by decide, lw_in (i := 438) (by decide +kernel) (by decide +kernel), rfl, by decide, Or.inr (Or.inr (Or.inr ⟨rfl, Or.inl ⟨_, rfl⟩⟩)), rfl⟩
theorem fl_X9_48 : zFld RX9 48 9 2 0 false := ⟨RX9, TX9, 11, tyX9, zc_9, by decide, lw_in (i := 430) (by decide +kernel) (by decide +kernel), rfl, by decide, Or.inl ⟨rfl, rfl⟩, rfl⟩
theorem fl_X9_51 : zFld RX9 51 9 1 0 false := ⟨RX9, TX9, 11, tyX9, zc_9, by decide, lw_in (i := 429) (by decide +kernel) (by decide +kernel), rfl, by decide, Or.inl ⟨rfl, rfl⟩, rfl⟩
theorem fl_X9_66 : zFld RX9 66 8 8 0 false := ⟨RX8, TX8, 10, tyX8, zc_8, by decide, lw_in (i := 387) (by decide +kernel) (by decide +kernel), rfl, by decide, Or.inl ⟨rfl, rfl⟩, rfl⟩
theorem fl_X9_69 : zFld RX9 69 8 9 0 false := ⟨RX8, TX8, 10, tyX8, zc_8, by decide, lw_in (i := 389) (by decide +kernel) (by decide +kernel), rfl, by decide, Or.inl ⟨rfl, rfl⟩, rfl⟩
theorem fl_X9_72 : zFld RX9 72 5 3 0 false := ⟨RX5, TX5, 12, tyX5, zc_5, by decide, lw_in (i := 332) (by decide +kernel) (by decide +kernel), rfl, by decide, Or.inl ⟨rfl, rfl⟩, rfl⟩
theorem fl_X9_78 : zFld RX9 78 5 1 0 false := ⟨RX5, TX5, 12, tyX5, zc_5, by decide, lw_in (i := 329) (by decide +kernel) (by decide +kernel), rfl, by decide, Or.inl ⟨rfl, rfl⟩, rfl⟩
theorem fl_X9_81 : zFld RX9 81 5 4 0 false := ⟨RX5, TX5, 12, tyX5, zc_5, by decide, lw_in (i := 334) (by decide +kernel) (by decide +kernel), rfl, by decide, Or.inl ⟨rfl, rfl⟩, rfl⟩
theorem fl_X9_84 : zFld RX9 84 9 8 0 false := ⟨RX9, TX9, 11, tyX9, zc_9, by decide, lw_in (i := 436) (by decide +kernel) (by decide +kernel), rfl, by decide, Or.inl ⟨rfl, rfl⟩, rfl⟩
theorem fl_X9_94 : zFld RX9 94 5 5 2 true := ⟨RX5, TX5, 12, tyX5, zc_5, by decide, lw_in (i := 336) (by decide +kernel) (by decide +kernel), rfl, by decide, Or.inr (Or.inr (Or.inr ⟨rfl, Or.inl ⟨_, rfl⟩⟩)), rfl⟩
theorem fl_X9_98 : zFld RX9 98 3 2 0 false := ⟨RX3, TX3, 3, tyX3, zc_3, by decide, lw_in (i := 120) (by decide +kernel) (by decide +kernel), rfl, by decide, Or.inl ⟨rfl, rfl⟩, rfl⟩
theorem fl_X9_103 : zFld RX9 103 5 8 2 true := ⟨RX5, TX5, 12, tyX5, zc_5, by decide, lw_in (i := 340) (by decide +kernel) (by decide +kernel), rfl, by decide, Or.inr (Or.inr (Or.inr ⟨rfl, Or.inl ⟨_, rfl⟩⟩)), rfl⟩
theorem fl_X9_107 : zFld RX9 107 1 5 0 false := ⟨RX1, TX1, 6, tyX1, zc_1, by decide, lw_in (i := 143) (by decide +kernel) (by decide +kernel), rfl, by decide, Or.inl ⟨rfl, rfl⟩, rfl⟩
theorem fl_X9_137 : zFld RX9 137 2 1 0 false := ⟨RX2, TX2, 12, tyX2, zc_2, by decide, lw_in (i := 269) (by decide +kernel) (by decide +kernel), rfl, by decide, Or.inl ⟨rfl, rfl⟩, rfl⟩
theorem fl_X9_143 : zFld RX9 143 4 4 2 true := ⟨RX4, TX4, 17, tyX4, zc_4, by decide, lw_in (i := 210) (by decide +kernel) (by decide +kernel), rfl, by decide, Or.inr (Or.inr (Or.inr ⟨rfl, Or.inl ⟨_, rfl⟩⟩)), rfl⟩
theorem fl_X9_150 : zFld RX9 150 4 12 2 true := ⟨RX4, TX4, 17, tyX4, zc_4, by decide, lw_in (i := 220) (by decide +kernel) (by decide +kernel), rfl, by decide, Or.inr (Or.inr (Or.inr ⟨rfl, Or.inl ⟨_, rfl⟩⟩)), rfl⟩
theorem fl_X9_154 : zFld RX9 154 6 5 1 false := ⟨RX6, TX6, 10, tyX6, zc_6, by decide, lw_in (i := 990) (by decide +kernel) (by decide +kernel), rfl, by decide, Or.inr (Or.inl ⟨rfl, rfl⟩), rfl⟩
theorem fl_X9_170 : zFld RX9 170 7 4 1 false := ⟨RX7, TX7, 6, tyX7, zc_7, by decide, lw_in (i := 180) (by decide +kernel) (by decide +kernel), rfl, by decide, Or.inr (Or.inl ⟨rfl, rfl⟩), rfl⟩
theorem fl_X9_177 : zFld RX9 177 7 5 1 false := ⟨RX7, TX7, 6, tyX7, zc_7, by decide, lw_in (i := 183) (by decide +kernel) (by decide +kernel), rfl, by decide, Or.inr (Or.inl ⟨rfl, rfl⟩), rfl⟩
theorem fl_X9_222 : zFld RX9 222 2 4 3 false := ⟨RX2, TX2, 12, tyX2, zc_2, by decide, lw_in (i := 282) (by decide +kernel) (by decide +kernel), rfl, by decide, Or.inr (Or.inr (Or.inl ⟨rfl, rfl⟩)), rfl⟩
theorem fl_X9_226 : zFld RX9 226 2 2 0 false := ⟨RX2, TX2, 12, tyX2, zc_2, by decide, lw_in (i := 274) (by decide +kernel) (by decide +kernel), rfl, by decide, Or.inl ⟨rfl, rfl⟩, rfl⟩
theorem fl_X9_229 : zFld RX9 229 2 3 0 false := ⟨RX2, TX2, 12, tyX2, zc_2, by decide, lw_in (i := 278) (by decide +kernel) (by decide +kernel), rfl, by decide, Or.inl ⟨rfl, rfl⟩, rfl⟩
theorem fl_X9_266 : zFld RX9 266 2 10 0 false := ⟨RX2, TX2, 12, tyX2, zc_2, by decide, lw_in (i := 297) (by decide +kernel) (by decide +kernel), rfl, by decide, Or.inl ⟨rfl, rfl⟩, rfl⟩
theorem fl_X9_279 : zFld RX9 279 5 11 3 false := ⟨RX5, TX5, 12, tyX5, zc_5, by decide, lw_in (i := 345) (by decide +kernel) (by decide +kernel), rfl, by decide, Or.inr (Or.inr (Or.inl ⟨rfl, rfl⟩)), rfl⟩
theorem fl_X9_291 : zFld RX9 291 5 10 0 false := ⟨RX5, TX5, 12, tyX5, zc_5, by decide, lw_in (i := 343) (by decide +kernel) (by decide +kernel), rfl, by decide, Or.inl ⟨rfl, rfl⟩, rfl⟩
theorem fl_X0_9 : zFld RX0 9 0 0 2 true := ⟨RX0, TX0, 3, tyX0, zc_0, by decide, lw_in (i := 417) (by decide +kernel) (by decide +kernel), rfl, by decide, Or.inr (Or.inr (Or.inr ⟨rfl, Or.inr ⟨_, rfl⟩⟩)), rfl⟩
theorem fl_X0_15 : zFld RX0 15 0 1 2 true := ⟨RX0, TX0, 3, tyX0, zc_0, by decide, lw_in (i := 418) (by decide +kernel) (by decide +kernel), rfl, by decide, Or.inr (Or.inr (Or.inr ⟨rfl, Or.inr ⟨_, rfl⟩⟩)), rfl⟩
theorem fl_X0_18 : zFld RX0 18 0 2 2 true := ⟨RX0, TX0, 3, tyX0, zc_0, by decide, lw_in (i := 419) (by decide +kernel) (by decide +kernel), rfl, by decide, Or.inr (Or.inr (Or.inr ⟨rfl, Or.inr ⟨_, rfl⟩⟩)), rfl⟩
theorem fl_X0_28 : zFld RX0 28 2 4 3 false := ⟨RX2, TX2, 12, tyX2, zc_2, by decide, lw_in (i := 280) (by decide +kernel) (by decide +kernel), rfl, by decide, Or.inr (Or.inr (Or.inl ⟨rfl, rfl⟩)), rfl⟩
theorem fl_X0_38 : zFld RX0 38 5 1 0 false := ⟨RX5, TX5, 12, tyX5, zc_5, by decide, lw_in (i := 327) (by decide +kernel) (by decide +kernel), rfl, by decide, Or.inl ⟨rfl, rfl⟩, rfl⟩
theorem fl_X0_54 : zFld RX0 54 4 0 0 false := ⟨RX4, TX4, 17, tyX4, zc_4, by decide, lw_in (i := 200) (by decide +kernel) (by decide +kernel), rfl, by decide, Or.inl ⟨rfl, rfl⟩, rfl⟩
theorem fl_X1_9 : zFld RX1 9 1 0 2 true := ⟨RX1, TX1, 6, tyX1, zc_1, by decide, lw_in (i := 137) (by decide +kernel) (by decide +kernel), rfl, by decide, Or.inr (Or.inr (Or.inr ⟨rfl, Or.inr ⟨_, rfl⟩⟩)), rfl⟩
theorem fl_X1_15 : zFld RX1 15 1 1 2 true := ⟨RX1, TX1, 6, tyX1, zc_1, by decide, lw_in (i := 138) (by decide +kernel) (by decide +kernel), rfl, by decide, Or.inr (Or.inr (Or.inr ⟨rfl, Or.inr ⟨_, rfl⟩⟩)), rfl⟩
theorem fl_X1_18 : zFld RX1 18 1 2 2 true := ⟨RX1, TX1, 6, tyX1, zc_1, by decide, lw_in (i := 139) (by decide +kernel) (by decide +kernel), rfl, by decide, Or.inr (Or.inr (Or.inr ⟨rfl, Or.inr ⟨_, rfl⟩⟩)), rfl⟩
theorem fl_X1_21 : zFld RX1 21 1 3 2 true := ⟨RX1, TX1, 6, tyX1, zc_1, by decide, lw_in (i := 140) (by decide +kernel) (by decide +kernel), rfl, by decide, Or.inr (Or.inr (Or.inr ⟨rfl, Or.inr ⟨_, rfl⟩⟩)), rfl⟩
theorem fl_X1_24 : zFld RX1 24 1 4 0 false := ⟨RX1, TX1, 6, tyX1, zc_1, by decide, lw_in (i := 141) (by decide +kernel) (by decide +kernel), rfl, by decide, Or.inl ⟨rfl, rfl⟩, rfl⟩
theorem fl_X1_28 : zFld RX1 28 1 5 0 false := ⟨RX1, TX1, 6, tyX1, zc_1, by decide, lw_in (i := 142) (by decide +kernel) (by decide +kernel), rfl, by decide, Or.inl ⟨rfl, rfl⟩, rfl⟩
theorem fl_X2_9 : zFld RX2 9 2 0 2 true := ⟨RX2, TX2, 12, tyX2, zc_2, by decide, lw_in (i := 266) (by decide +kernel) (by decide +kernel), rfl, by decide, Or.inr (Or.inr (Or.inr ⟨rfl, Or.inr ⟨_, rfl⟩⟩)), rfl⟩
theorem fl_X2_15 : zFld RX2 15 2 1 0 false := ⟨RX2, TX2, 12, tyX2, zc_2, by decide, lw_in (i := 267) (by decide +kernel) (by decide +kernel), rfl, by decide, Or.inl ⟨rfl, rfl⟩, rfl⟩
theorem fl_X2_19 : zFld RX2 19 2 2 0 false := ⟨RX2, TX2, 12, tyX2, zc_2, by decide, lw_in (i := 271) (by decide +kernel) (by decide +kernel), rfl, by decide, Or.inl ⟨rfl, rfl⟩, rfl⟩
theorem fl_X2_22 : zFld RX2 22 2 3 0 false := ⟨RX2, TX2, 12, tyX2, zc_2, by decide, lw_in (i := 275) (by decide +kernel) (by decide +kernel), rfl, by decide, Or.inl ⟨rfl, rfl⟩, rfl⟩
theorem fl_X2_25 : zFld RX2 25 2 4 3 false := ⟨RX2, TX2, 12, tyX2, zc_2, by decide, lw_in (i := 279) (by decide +kernel) (by decide +kernel), rfl, by decide, Or.inr (Or.inr (Or.inl ⟨rfl, rfl⟩)), rfl⟩
theorem fl_X2_29 : zFld RX2 29 2 5 0 false := ⟨RX2, TX2, 12, tyX2, zc_2, by decide, lw_in (i := 284) (by decide +kernel) (by decide +kernel), rfl, by decide, Or.inl ⟨rfl, rfl⟩, rfl⟩
theorem fl_X2_32 : zFld RX2 32 2 6 0 false := ⟨RX2, TX2, 12, tyX2, zc_2, by decide, lw_in (i := 288) (by decide +kernel) (by decide +kernel), rfl, by decide, Or.inl ⟨rfl, rfl⟩, rfl⟩
theorem fl_X2_35 : zFld RX2 35 2 7 0 false := ⟨RX2, TX2, 12, tyX2, zc_2, by decide, lw_in (i := 290) (by decide +kernel) (by decide +kernel), rfl, by decide, Or.inl ⟨rfl, rfl⟩, rfl⟩
theorem fl_X2_38 : zFld RX2 38 2 8 0 false := ⟨RX2, TX2, 12, tyX2, zc_2, by decide, lw_in (i := 292) (by decide +kernel) (by decide +kernel), rfl, by decide, Or.inl ⟨rfl, rfl⟩, rfl⟩
theorem fl_X2_41 : zFld RX2 41 2 9 0 false := ⟨RX2, TX2, 12, tyX2, zc_2, by decide, lw_in (i := 294) (by decide +kernel) (by decide +kernel), rfl, by decide, Or.inl ⟨rfl, rfl⟩, rfl⟩
theorem fl_X2_44 : zFld RX2 44 2 10 0 false := ⟨RX2, TX2, 12, tyX2, zc_2, by decide, lw_in (i := 295) (by decide +kernel) (by decide +kernel), rfl, by decide, Or.inl ⟨rfl, rfl⟩, rfl⟩
theorem fl_X2_47 : zFld RX2 47 2 11 0 false := ⟨RX2, TX2, 12, tyX2, zc_2, by decide, lw_in (i := 298) (by decide +kernel) (by decide +kernel), rfl, by decide, Or.inl ⟨rfl, rfl⟩, rfl⟩
theorem fl_X2_64 : zFld RX2 64 6 1 0 false := ⟨RX6, TX6, 10, tyX6, zc_6, by decide, lw_in (i := 980) (by decide +kernel) (by decide +kernel), rfl, by decide, Or.inl ⟨rfl, rfl⟩, rfl⟩
theorem fl_X2_69 : zFld RX2 69 6 8 3 false := ⟨RX6, TX6, 10, tyX6, zc_6, by decide, lw_in (i := 999) (by decide +kernel) (by decide +kernel), rfl, by decide, Or.inr (Or.inr (Or.inl ⟨rfl, rfl⟩)), rfl⟩
theorem fl_X2_77 : zFld RX2 77 6 6 0 false := ⟨RX6, TX6, 10, tyX6, zc_6, by decide, lw_in (i := 993) (by decide +kernel) (by decide +kernel), rfl, by decide, Or.inl ⟨rfl, rfl⟩, rfl⟩
theorem fl_X3_9 : zFld RX3 9 6 9 2 false := ⟨RX6, TX6, 10, tyX6, zc_6, by decide, lw_in (i := 1001) (by decide +kernel) (by decide +kernel), rfl, by decide, Or.inr (Or.inr (Or.inr ⟨rfl, Or.inl ⟨_, rfl⟩⟩)), rfl⟩
theorem fl_X3_15 : zFld RX3 15 3 1 2 false := ⟨RX3, TX3, 3, tyX3, zc_3, by decide, lw_in (i := 118) (by decide +kernel) (by decide +kernel), rfl, by decide, Or.inr (Or.inr (Or.inr ⟨rfl, Or.inl ⟨_, rfl⟩⟩)), rfl⟩
theorem fl_X3_20 : zFld RX3 20 3 0 2 false := ⟨RX3, TX3, 3, tyX3, zc_3, by decide, lw_in (i := 116) (by decide +kernel) (by decide +kernel), rfl, by decide, Or.inr (Or.inr (Or.inr ⟨rfl, Or.inl ⟨_, rfl⟩⟩)), rfl⟩
theorem fl_X3_23 : zFld RX3 23 3 2 0 false := ⟨RX3, TX3, 3, tyX3, zc_3, by decide, lw_in (i := 119) (by decide +kernel) (by decide +kernel), rfl, by decide, Or.inl ⟨rfl, rfl⟩, rfl⟩
theorem fl_X3_35 : zFld RX3 35 6 0 0 false := ⟨RX6, TX6, 10, tyX6, zc_6, by decide, lw_in (i := 975) (by decide +kernel) (by decide +kernel), rfl, by decide, Or.inl ⟨rfl, rfl⟩, rfl⟩
theorem fl_X3_38 : zFld RX3 38 6 8 3 false := ⟨RX6, TX6, 10, tyX6, zc_6, by decide, lw_in (i := 998) (by decide +kernel) (by decide +kernel), rfl, by decide, Or.inr (Or.inr (Or.inl ⟨rfl, rfl⟩)), rfl⟩
theorem fl_X3_42 : zFld RX3 42 6 1 0 false := ⟨RX6, TX6, 10, tyX6, zc_6, by decide, lw_in (i := 979) (by decide +kernel) (by decide +kernel), rfl, by decide, Or.inl ⟨rfl, rfl⟩, rfl⟩
theorem fl_X4_12 : zFld RX4 12 4 4 2 true := ⟨RX4, TX4, 17, tyX4, zc_4, by decide, lw_in (i := 208) (by decide +kernel) (by decide +kernel), rfl, by decide, Or.inr (Or.inr (Or.inr ⟨rfl, Or.inl ⟨_, rfl⟩⟩)), rfl⟩
theorem fl_X4_18 : zFld RX4 18 4 5 2 true := ⟨RX4, TX4, 17, tyX4, zc_4, by decide, lw_in (i := 211) (by decide +kernel) (by decide +kernel), rfl, by decide, Or.inr (Or.inr (Or.inr ⟨rfl, Or.inl ⟨_, rfl⟩⟩)), rfl⟩
theorem fl_X4_21 : zFld RX4 21 4 9 2 true := ⟨RX4, TX4, 17, tyX4, zc_4, by decide, lw_in (i := 216) (by decide +kernel) (by decide +kernel), rfl, by decide, Or.inr (Or.inr (Or.inr ⟨rfl, Or.inr ⟨_, rfl⟩⟩)), rfl⟩
theorem fl_X4_25 : zFld RX4 25 4 10 2 true := ⟨RX4, TX4, 17, tyX4, zc_4, by decide, lw_in (i := 217) (by decide +kernel) (by decide +kernel), rfl, by decide, Or.inr (Or.inr (Or.inr ⟨rfl, Or.inr ⟨_, rfl⟩⟩)), rfl⟩
theorem fl_X4_28 : zFld RX4 28 4 11 2 true := ⟨RX4, TX4, 17, tyX4, zc_4, by decide, lw_in (i := 218) (by decide +kernel) (by decide +kernel), rfl, by decide, Or.inr (Or.inr (Or.inr ⟨rfl, Or.inr ⟨_, rfl⟩⟩)), rfl⟩
theorem fl_X4_34 : zFld RX4 34 4 12 2 true := ⟨RX4, TX4, 17, tyX4, zc_4, by decide, lw_in (i := 219) (by decide +kernel) (by decide +kernel), rfl, by decide, Or.inr (Or.inr (Or.inr ⟨rfl, Or.inl ⟨_, rfl⟩⟩)), rfl⟩
theorem fl_X4_38 : zFld RX4 38 4 0 0 false := ⟨RX4, TX4, 17, tyX4, zc_4, by decide, lw_in (i := 198) (by decide +kernel) (by decide +kernel), rfl, by decide, Or.inl ⟨rfl, rfl⟩, rfl⟩
theorem fl_X4_42 : zFld RX4 42 4 2 0 false := ⟨RX4, TX4, 17, tyX4, zc_4, by decide, lw_in (i := 204) (by decide +kernel) (by decide +kernel), rfl, by decide, Or.inl ⟨rfl, rfl⟩, rfl⟩
theorem fl_X4_45 : zFld RX4 45 4 3 0 false := ⟨RX4, TX4, 17, tyX4, zc_4, by decide, lw_in (i := 206) (by decide +kernel) (by decide +kernel), rfl, by decide, Or.inl ⟨rfl, rfl⟩, rfl⟩
theorem fl_X4_51 : zFld RX4 51 4 13 0 false := ⟨RX4, TX4, 17, tyX4, zc_4, by decide, lw_in (i := 221) (by decide +kernel) (by decide +kernel), rfl, by decide, Or.inl ⟨rfl, rfl⟩, rfl⟩
theorem fl_X4_54 : zFld RX4 54 4 14 0 false := ⟨RX4, TX4, 17, tyX4, zc_4, by decide, lw_in (i := 223) (by decide +kernel) (by decide +kernel), rfl, by decide, Or.inl ⟨rfl, rfl⟩, rfl⟩
theorem fl_X4_57 : zFld RX4 57 4 16 0 false := ⟨RX4, TX4, 17, tyX4, zc_4, by decide, lw_in (i := 225) (by decide +kernel) (by decide +kernel), rfl, by decide, Or.inl ⟨rfl, rfl⟩, rfl⟩
theorem fl_X4_63 : zFld RX4 63 4 1 0 false := ⟨RX4, TX4, 17, tyX4, zc_4, by decide, lw_in (i := 202) (by decide +kernel) (by decide +kernel), rfl, by decide, Or.inl ⟨rfl, rfl⟩, rfl⟩
theorem fl_X4_66 : zFld RX4 66 4 6 0 false := ⟨RX4, TX4, 17, tyX4, zc_4, by decide, lw_in (i := 213) (by decide +kernel) (by decide +kernel), rfl, by decide, Or.inl ⟨rfl, rfl⟩, rfl⟩
theorem fl_X4_69 : zFld RX4 69 4 7 0 false := ⟨RX4, TX4, 17, tyX4, zc_4, by decide, lw_in (i := 214) (by decide +kernel) (by decide +kernel), rfl, by decide, Or.inl ⟨rfl, rfl⟩, rfl⟩
theorem fl_X4_72 : zFld RX4 72 4 8 1 false := ⟨RX4, TX4, 17, tyX4, zc_4, by decide, lw_in (i := 215) (by decide +kernel) (by decide +kernel), rfl, by decide, Or.inr (Or.inl ⟨rfl, rfl⟩), rfl⟩
theorem fl_X4_86 : zFld RX4 86 4 15 0 false := ⟨RX4, TX4, 17, tyX4, zc_4, by decide, lw_in (i := 224) (by decide +kernel) (by decide +kernel), rfl, by decide, Or.inl ⟨rfl, rfl⟩, rfl⟩
theorem fl_X4_89 : zFld RX4 89 3 2 0 false := ⟨RX3, TX3, 3, tyX3, zc_3, by decide, lw_in (i := 121) (by decide +kernel) (by decide +kernel), rfl, by decide, Or.inl ⟨rfl, rfl⟩, rfl⟩
theorem fl_X4_100 : zFld RX4 100 6 5 1 false := ⟨RX6, TX6, 10, tyX6, zc_6, by decide, lw_in (i := 989) (by decide +kernel) (by decide +kernel), rfl, by decide, Or.inr (Or.inl ⟨rfl, rfl⟩), rfl⟩
theorem fl_X4_105 : zFld RX4 105 6 0 0 false := ⟨RX6, TX6, 10, tyX6, zc_6, by decide, lw_in (i := 976) (by decide +kernel) (by decide +kernel), rfl, by decide, Or.inl ⟨rfl, rfl⟩, rfl⟩
theorem fl_X4_108 : zFld RX4 108 6 3 0 false := ⟨RX6, TX6, 10, tyX6, zc_6, by decide, lw_in (i := 985) (by decide +kernel) (by decide +kernel), rfl, by decide, Or.inl ⟨rfl, rfl⟩, rfl⟩
theorem fl_X4_111 : zFld RX4 111 6 4 0 false := ⟨RX6, TX6, 10, tyX6, zc_6, by decide, lw_in (i := 987) (by decide +kernel) (by decide +kernel), rfl, by decide, Or.inl ⟨rfl, rfl⟩, rfl⟩
theorem fl_X4_118 : zFld RX4 118 6 6 0 false := ⟨RX6, TX6, 10, tyX6, zc_6, by decide, lw_in (i := 992) (by decide +kernel) (by decide +kernel), rfl, by decide, Or.inl ⟨rfl, rfl⟩, rfl⟩
theorem fl_X4_131 : zFld RX4 131 6 2 0 false := ⟨RX6, TX6, 10, tyX6, zc_6, by decide, lw_in (i := 982) (by decide +kernel) (by decide +kernel), rfl, by decide, Or.inl ⟨rfl, rfl⟩, rfl⟩
theorem fl_X4_134 : zFld RX4 134 6 7 0 false := ⟨RX6, TX6, 10, tyX6, zc_6, by decide, lw_in (i := 995) (by decide +kernel) (by decide +kernel), rfl, by decide, Or.inl ⟨rfl, rfl⟩, rfl⟩
theorem fl_X4_157 : zFld RX4 157 7 0 1 false := ⟨RX7, TX7, 6, tyX7, zc_7, by decide, lw_in (i := 172) (by decide +kernel) (by decide +kernel), rfl, by decide, Or.inr (Or.inl ⟨rfl, rfl⟩), rfl⟩
theorem fl_X4_160 : zFld RX4 160 7 1 1 false := ⟨RX7, TX7, 6, tyX7, zc_7, by decide, lw_in (i := 174) (by decide +kernel) (by decide +kernel), rfl, by decide, Or.inr (Or.inl ⟨rfl, rfl⟩), rfl⟩
theorem fl_X4_163 : zFld RX4 163 7 2 1 false := ⟨RX7, TX7, 6, tyX7, zc_7, by decide, lw_in (i := 176) (by decide +kernel) (by decide +kernel), rfl, by decide, Or.inr (Or.inl ⟨rfl, rfl⟩), rfl⟩
theorem fl_X4_166 : zFld RX4 166 7 3 1 false := ⟨RX7, TX7, 6, tyX7, zc_7, by decide, lw_in (i := 178) (by decide +kernel) (by decide +kernel), rfl, by decide, Or.inr (Or.inl ⟨rfl, rfl⟩), rfl⟩
theorem fl_X4_169 : zFld RX4 169 7 4 1 false := ⟨RX7, TX7, 6, tyX7, zc_7, by decide, lw_in (i := 181) (by decide +kernel) (by decide +kernel), rfl, by decide, Or.inr (Or.inl ⟨rfl, rfl⟩), rfl⟩
theorem fl_X4_172 : zFld RX4 172 7 5 1 false := ⟨RX7, TX7, 6, tyX7, zc_7, by decide, lw_in (i := 184) (by decide +kernel) (by decide +kernel), rfl, by decide, Or.inr (Or.inl ⟨rfl, rfl⟩), rfl⟩
theorem fl_X5_11 : zFld RX5 11 5 0 2 true := ⟨RX5, TX5, 12, tyX5, zc_5, by decide, lw_in (i := 325) (by decide +kernel) (by decide +kernel), rfl, by decide, Or.inr (Or.inr (Or.inr ⟨rfl, Or.inr ⟨_, rfl⟩⟩)), rfl⟩
theorem fl_X5_19 : zFld RX5 19 5 2 2 true := ⟨RX5, TX5, 12, tyX5, zc_5, by decide, lw_in (i := 330) (by decide +kernel) (by decide +kernel), rfl, by decide, Or.inr (Or.inr (Or.inr ⟨rfl, Or.inr ⟨_, rfl⟩⟩)), rfl⟩
theorem fl_X5_26 : zFld RX5 26 5 5 2 true := ⟨RX5, TX5, 12, tyX5, zc_5, by decide, lw_in (i := 335) (by decide +kernel) (by decide +kernel), rfl, by decide, Or.inr (Or.inr (Or.inr ⟨rfl, Or.inl ⟨_, rfl⟩⟩)), rfl⟩
theorem fl_X5_30 : zFld RX5 30 5 6 2 true := ⟨RX5, TX5, 12, tyX5, zc_5, by decide, lw_in (i := 337) (by decide +kernel) (by decide +kernel), rfl, by decide, Or.inr (Or.inr (Or.inr ⟨rfl, Or.inl ⟨_, rfl⟩⟩)), rfl⟩
theorem fl_X5_36 : zFld RX5 36 5 8 2 true := ⟨RX5, TX5, 12, tyX5, zc_5, by decide, lw_in (i := 339) (by decide +kernel) (by decide +kernel), rfl, by decide, Or.inr (Or.inr (Or.inr ⟨rfl, Or.inl ⟨_, rfl⟩⟩)), rfl⟩
theorem fl_X5_40 : zFld RX5 40 5 9 2 true := ⟨RX5, TX5, 12, tyX5, zc_5, by decide, lw_in (i := 341) (by decide +kernel) (by decide +kernel), rfl, by decide, Or.inr (Or.inr (Or.inr ⟨rfl, Or.inr ⟨_, rfl⟩⟩)), rfl⟩
theorem fl_X5_49 : zFld RX5 49 5 1 0 false := ⟨RX5, TX5, 12, tyX5, zc_5, by decide, lw_in (i := 326) (by decide +kernel) (by decide +kernel), rfl, by decide, Or.inl ⟨rfl, rfl⟩, rfl⟩
theorem fl_X5_53 : zFld RX5 53 5 3 0 false := ⟨RX5, TX5, 12, tyX5, zc_5, by decide, lw_in (i := 331) (by decide +kernel) (by decide +kernel), rfl, by decide, Or.inl ⟨rfl, rfl⟩, rfl⟩
theorem fl_X5_56 : zFld RX5 56 5 4 0 false := ⟨RX5, TX5, 12, tyX5, zc_5, by decide, lw_in (i := 333) (by decide +kernel) (by decide +kernel), rfl, by decide, Or.inl ⟨rfl, rfl⟩, rfl⟩
theorem fl_X5_62 : zFld RX5 62 5 10 0 false := ⟨RX5, TX5, 12, tyX5, zc_5, by decide, lw_in (i := 342) (by decide +kernel) (by decide +kernel), rfl, by decide, Or.inl ⟨rfl, rfl⟩, rfl⟩
theorem fl_X5_65 : zFld RX5 65 5 11 3 false := ⟨RX5, TX5, 12, tyX5, zc_5, by decide, lw_in (i := 344) (by decide +kernel) (by decide +kernel), rfl, by decide, Or.inr (Or.inr (Or.inl ⟨rfl, rfl⟩)), rfl⟩
theorem fl_X5_73 : zFld RX5 73 4 4 2 true := ⟨RX4, TX4, 17, tyX4, zc_4, by decide, lw_in (i := 209) (by decide +kernel) (by decide +kernel), rfl, by decide, Or.inr (Or.inr (Or.inr ⟨rfl, Or.inl ⟨_, rfl⟩⟩)), rfl⟩
theorem fl_X5_80 : zFld RX5 80 4 5 2 true := ⟨RX4, TX4, 17, tyX4, zc_4, by decide, lw_in (i := 212) (by decide +kernel) (by decide +kernel), rfl, by decide, Or.inr (Or.inr (Or.inr ⟨rfl, Or.inl ⟨_, rfl⟩⟩)), rfl⟩
theorem fl_X5_99 : zFld RX5 99 3 0 2 false := ⟨RX3, TX3, 3, tyX3, zc_3, by decide, lw_in (i := 117) (by decide +kernel) (by decide +kernel), rfl, by decide, Or.inr (Or.inr (Or.inr ⟨rfl, Or.inl ⟨_, rfl⟩⟩)), rfl⟩
theorem fl_X5_115 : zFld RX5 115 6 9 2 false := ⟨RX6, TX6, 10, tyX6, zc_6, by decide, lw_in (i := 1002) (by decide +kernel) (by decide +kernel), rfl, by decide, Or.inr (Or.inr (Or.inr ⟨rfl, Or.inl ⟨_, rfl⟩⟩)), rfl⟩
theorem fl_X5_121 : zFld RX5 121 5 7 0 false := ⟨RX5, TX5, 12, tyX5, zc_5, by decide, lw_in (i := 338) (by decide +kernel) (by decide +kernel), rfl, by decide, Or.inl ⟨rfl, rfl⟩, rfl⟩
theorem fl_X5_125 : zFld RX5 125 2 1 0 false := ⟨RX2, TX2, 12, tyX2, zc_2, by decide, lw_in (i := 270) (by decide +kernel) (by decide +kernel), rfl, by decide, Or.inl ⟨rfl, rfl⟩, rfl⟩
theorem fl_X5_136 : zFld RX5 136 4 1 0 false := ⟨RX4, TX4, 17, tyX4, zc_4, by decide, lw_in (i := 203) (by decide +kernel) (by decide +kernel), rfl, by decide, Or.inl ⟨rfl, rfl⟩, rfl⟩
theorem fl_X5_139 : zFld RX5 139 2 5 0 false := ⟨RX2, TX2, 12, tyX2, zc_2, by decide, lw_in (i := 286) (by decide +kernel) (by decide +kernel), rfl, by decide, Or.inl ⟨rfl, rfl⟩, rfl⟩
theorem fl_X5_163 : zFld RX5 163 3 2 0 false := ⟨RX3, TX3, 3, tyX3, zc_3, by decide, lw_in (i := 122) (by decide +kernel) (by decide +kernel), rfl, by decide, Or.inl ⟨rfl, rfl⟩, rfl⟩
theorem fl_X5_166 : zFld RX5 166 6 7 0 false := ⟨RX6, TX6, 10, tyX6, zc_6, by decide, lw_in (i := 996) (by decide +kernel) (by decide +kernel), rfl, by decide, Or.inl ⟨rfl, rfl⟩, rfl⟩
theorem fl_X5_172 : zFld RX5 172 6 0 0 false := ⟨RX6, TX6, 10, tyX6, zc_6, by decide, lw_in (i := 977) (by decide +kernel) (by decide +kernel), rfl, by decide, Or.inl ⟨rfl, rfl⟩, rfl⟩
theorem fl_X5_205 : zFld RX5 205 2 2 0 false := ⟨RX2, TX2, 12, tyX2, zc_2, by decide, lw_in (i := 273) (by decide +kernel) (by decide +kernel), rfl, by decide, Or.inl ⟨rfl, rfl⟩, rfl⟩
theorem fl_X5_208 : zFld RX5 208 6 2 0 false := ⟨RX6, TX6, 10, tyX6, zc_6, by decide, lw_in (i := 983) (by decide +kernel) (by decide +kernel), rfl, by decide, Or.inl ⟨rfl, rfl⟩, rfl⟩
theorem fl_X5_221 : zFld RX5 221 6 8 3 false := ⟨RX6, TX6, 10, tyX6, zc_6, by decide, lw_in (i := 1000) (by decide +kernel) (by decide +kernel), rfl, by decide, Or.inr (Or.inr (Or.inl ⟨rfl, rfl⟩)), rfl⟩
theorem fl_X5_227 : zFld RX5 227 4 13 0 false := ⟨RX4, TX4, 17, tyX4, zc_4, by decide, lw_in (i := 222) (by decide +kernel) (by decide +kernel), rfl, by decide, Or.inl ⟨rfl, rfl⟩, rfl⟩
theorem fl_X5_237 : zFld RX5 237 2 6 0 false := ⟨RX2, TX2, 12, tyX2, zc_2, by decide, lw_in (i := 289) (by decide +kernel) (by decide +kernel), rfl, by decide, Or.inl ⟨rfl, rfl⟩, rfl⟩
theorem fl_X5_258 : zFld RX5 258 2 10 0 false := ⟨RX2, TX2, 12, tyX2, zc_2, by decide, lw_in (i := 296) (by decide +kernel) (by decide +kernel), rfl, by decide, Or.inl ⟨rfl, rfl⟩, rfl⟩
theorem fl_X5_261 : zFld RX5 261 2 11 0 false := ⟨RX2, TX2, 12, tyX2, zc_2, by decide, lw_in (i := 299) (by decide +kernel) (by decide +kernel), rfl, by decide, Or.inl ⟨rfl, rfl⟩, rfl⟩
theorem fl_X5_263 : zFld RX5 263 2 4 3 false := ⟨RX2, TX2, 12, tyX2, zc_2, by decide, lw_in (i := 283) (by decide +kernel) (by decide +kernel), rfl, by decide, Or.inr (Or.inr (Or.inl ⟨rfl, rfl⟩)), rfl⟩
theorem fl_X6_9 : zFld RX6 9 6 0 0 false := ⟨RX6, TX6, 10, tyX6, zc_6, by decide, lw_in (i := 974) (by decide +kernel) (by decide +kernel), rfl, by decide, Or.inl ⟨rfl, rfl⟩, rfl⟩
theorem fl_X6_15 : zFld RX6 15 6 1 0 false := ⟨RX6, TX6, 10, tyX6, zc_6, by decide, lw_in (i := 978) (by decide +kernel) (by decide +kernel), rfl, by decide, Or.inl ⟨rfl, rfl⟩, rfl⟩
theorem fl_X6_18 : zFld RX6 18 6 2 0 false := ⟨RX6, TX6, 10, tyX6, zc_6, by decide, lw_in (i := 981) (by decide +kernel) (by decide +kernel), rfl, by decide, Or.inl ⟨rfl, rfl⟩, rfl⟩
theorem fl_X6_21 : zFld RX6 21 2 6 0 false := ⟨RX2, TX2, 12, tyX2, zc_2, by decide, lw_in (i := 287) (by decide +kernel) (by decide +kernel), rfl, by decide, Or.inl ⟨rfl, rfl⟩, rfl⟩
theorem fl_X6_26 : zFld RX6 26 6 3 0 false := ⟨RX6, TX6, 10, tyX6, zc_6, by decide, lw_in (i := 984) (by decide +kernel) (by decide +kernel), rfl, by decide, Or.inl ⟨rfl, rfl⟩, rfl⟩
theorem fl_X6_27 : zFld RX6 27 2 3 0 false := ⟨RX2, TX2, 12, tyX2, zc_2, by decide, lw_in (i := 276) (by decide +kernel) (by decide +kernel), rfl, by decide, Or.inl ⟨rfl, rfl⟩, rfl⟩
theorem fl_X6_30 : zFld RX6 30 2 8 0 false := ⟨RX2, TX2, 12, tyX2, zc_2, by decide, lw_in (i := 291) (by decide +kernel) (by decide +kernel), rfl, by decide, Or.inl ⟨rfl, rfl⟩, rfl⟩
theorem fl_X6_33 : zFld RX6 33 6 4 0 false := ⟨RX6, TX6, 10, tyX6, zc_6, by decide, lw_in (i := 986) (by decide +kernel) (by decide +kernel), rfl, by decide, Or.inl ⟨rfl, rfl⟩, rfl⟩
theorem fl_X6_42 : zFld RX6 42 6 5 1 false := ⟨RX6, TX6, 10, tyX6, zc_6, by decide, lw_in (i := 988) (by decide +kernel) (by decide +kernel), rfl, by decide, Or.inr (Or.inl ⟨rfl, rfl⟩), rfl⟩
theorem fl_X6_46 : zFld RX6 46 6 6 0 false := ⟨RX6, TX6, 10, tyX6, zc_6, by decide, lw_in (i := 991) (by decide +kernel) (by decide +kernel), rfl, by decide, Or.inl ⟨rfl, rfl⟩, rfl⟩
theorem fl_X6_49 : zFld RX6 49 6 7 0 false := ⟨RX6, TX6, 10, tyX6, zc_6, by decide, lw_in (i := 994) (by decide +kernel) (by decide +kernel), rfl, by decide, Or.inl ⟨rfl, rfl⟩, rfl⟩
theorem fl_X6_52 : zFld RX6 52 6 8 3 false := ⟨RX6, TX6, 10, tyX6, zc_6, by decide, lw_in (i := 997) (by decide +kernel) (by decide +kernel), rfl, by decide, Or.inr (Or.inr (Or.inl ⟨rfl, rfl⟩)), rfl⟩
theorem fl_X7_7 : zFld RX7 7 7 0 1 false := ⟨RX7, TX7, 6, tyX7, zc_7, by decide, lw_in (i := 171) (by decide +kernel) (by decide +kernel), rfl, by decide, Or.inr (Or.inl ⟨rfl, rfl⟩), rfl⟩
theorem fl_X7_13 : zFld RX7 13 7 1 1 false := ⟨RX7, TX7, 6, tyX7, zc_7, by decide, lw_in (i := 173) (by decide +kernel) (by decide +kernel), rfl, by decide, Or.inr (Or.inl ⟨rfl, rfl⟩), rfl⟩
theorem fl_X7_16 : zFld RX7 16 7 2 1 false := ⟨RX7, TX7, 6, tyX7, zc_7, by decide, lw_in (i := 175) (by decide +kernel) (by decide +kernel), rfl, by decide, Or.inr (Or.inl ⟨rfl, rfl⟩), rfl⟩
theorem fl_X7_19 : zFld RX7 19 7 3 1 false := ⟨RX7, TX7, 6, tyX7, zc_7, by decide, lw_in (i := 177) (by decide +kernel) (by decide +kernel), rfl, by decide, Or.inr (Or.inl ⟨rfl, rfl⟩), rfl⟩
theorem fl_X7_22 : zFld RX7 22 7 4 1 false := ⟨RX7, TX7, 6, tyX7, zc_7, by decide, lw_in (i := 179) (by decide +kernel) (by decide +kernel), rfl, by decide, Or.inr (Or.inl ⟨rfl, rfl⟩), rfl⟩
theorem fl_X7_25 : zFld RX7 25 7 5 1 false := ⟨RX7, TX7, 6, tyX7, zc_7, by decide, lw_in (i := 182) (by decide +kernel) (by decide +kernel), rfl, by decide, Or.inr (Or.inl ⟨rfl, rfl⟩), rfl⟩
theorem fl_X8_9 : zFld RX8 9 8 0 2 false := ⟨RX8, TX8, 10, tyX8, zc_8, by decide, lw_in (i := 378) (by decide +kernel) (by decide +kernel), rfl, by decide, Or.inr (Or.inr (Or.inr ⟨rfl, Or.inr ⟨_, rfl⟩⟩)), rfl⟩
theorem fl_X8_21 : zFld RX8 21 8 1 0 false := ⟨RX8, TX8, 10, tyX8, zc_8, by decide, lw_in (i := 379) (by decide +kernel) (by decide +kernel), rfl, by decide, Or.inl ⟨rfl, rfl⟩, rfl⟩
theorem fl_X8_25 : zFld RX8 25 8 6 2 false := ⟨RX8, TX8, 10, tyX8, zc_8, by decide, lw_in (i := 384) (by decide +kernel) (by decide +kernel), rfl, by decide, Or.inr (Or.inr (Or.inr ⟨rfl, Or.inl ⟨_, rfl⟩⟩)), rfl⟩
theorem fl_X8_29 : zFld RX8 29 8 8 0 false := ⟨RX8, TX8, 10, tyX8, zc_8, by decide, lw_in (i := 386) (by decide +kernel) (by decide +kernel), rfl, by decide, Or.inl ⟨rfl, rfl⟩, rfl⟩
theorem fl_X8_32 : zFld RX8 32 8 9 0 false := ⟨RX8, TX8, 10, tyX8, zc_8, by decide, lw_in (i := 388) (by decide +kernel) (by decide +kernel), rfl, by decide, Or.inl ⟨rfl, rfl⟩, rfl⟩
theorem fl_X8_35 : zFld RX8 35 8 3 0 false := ⟨RX8, TX8, 10, tyX8, zc_8, by decide, lw_in (i := 381) (by decide +kernel) (by decide +kernel), rfl, by decide, Or.inl ⟨rfl, rfl⟩, rfl⟩
theorem fl_X8_46 : zFld RX8 46 8 4 0 false := ⟨RX8, TX8, 10, tyX8, zc_8, by decide, lw_in (i := 382) (by decide +kernel) (by decide +kernel), rfl, by decide, Or.inl ⟨rfl, rfl⟩, rfl⟩
theorem fl_X8_76 : zFld RX8 76 8 5 0 false := ⟨RX8, TX8, 10, tyX8, zc_8, by decide, lw_in (i := 383) (by decide +kernel) (by decide +kernel), rfl, by decide, Or.inl ⟨rfl, rfl⟩, rfl⟩
theorem fl_X8_79 : zFld RX8 79 4 0 0 false := ⟨RX4, TX4, 17, tyX4, zc_4, by decide, lw_in (i := 199) (by decide +kernel) (by decide +kernel), rfl, by decide, Or.inl ⟨rfl, rfl⟩, rfl⟩
theorem fl_X8_84 : zFld RX8 84 4 1 0 false := ⟨RX4, TX4, 17, tyX4, zc_4, by decide, lw_in (i := 201) (by decide +kernel) (by decide +kernel), rfl, by decide, Or.inl ⟨rfl, rfl⟩, rfl⟩
theorem fl_X8_87 : zFld RX8 87 4 2 0 false := ⟨RX4, TX4, 17, tyX4, zc_4, by decide, lw_in (i := 205) (by decide +kernel) (by decide +kernel), rfl, by decide, Or.inl ⟨rfl, rfl⟩, rfl⟩
theorem fl_X8_90 : zFld RX8 90 4 3 0 false := ⟨RX4, TX4, 17, tyX4, zc_4, by decide, lw_in (i := 207) (by decide +kernel) (by decide +kernel), rfl, by decide, Or.inl ⟨rfl, rfl⟩, rfl⟩
theorem fl_X8_107 : zFld RX8 107 8 7 3 false := ⟨RX8, TX8, 10, tyX8, zc_8, by decide, lw_in (i := 385) (by decide +kernel) (by decide +kernel), rfl, by decide, Or.inr (Or.inr (Or.inl ⟨rfl, rfl⟩)), rfl⟩
theorem fl_X8_122 : zFld RX8 122 2 5 0 false := ⟨RX2, TX2, 12, tyX2, zc_2, by decide, lw_in (i := 285) (by decide +kernel) (by decide +kernel), rfl, by decide, Or.inl ⟨rfl, rfl⟩, rfl⟩
theorem fl_X8_125 : zFld RX8 125 2 8 0 false := ⟨RX2, TX2, 12, tyX2, zc_2, by decide, lw_in (i := 293) (by decide +kernel) (by decide +kernel), rfl, by decide, Or.inl ⟨rfl, rfl⟩, rfl⟩
theorem fl_X8_128 : zFld RX8 128 5 1 0 false := ⟨RX5, TX5, 12, tyX5, zc_5, by decide, lw_in (i := 328) (by decide +kernel) (by decide +kernel), rfl, by decide, Or.inl ⟨rfl, rfl⟩, rfl⟩
theorem fl_X8_134 : zFld RX8 134 2 1 0 false := ⟨RX2, TX2, 12, tyX2, zc_2, by decide, lw_in (i := 268) (by decide +kernel) (by decide +kernel), rfl, by decide, Or.inl ⟨rfl, rfl⟩, rfl⟩
theorem fl_X8_143 : zFld RX8 143 2 3 0 false := ⟨RX2, TX2, 12, tyX2, zc_2, by decide, lw_in (i := 277) (by decide +kernel) (by decide +kernel), rfl, by decide, Or.inl ⟨rfl, rfl⟩, rfl⟩
theorem fl_X8_148 : zFld RX8 148 2 4 3 false := ⟨RX2, TX2, 12, tyX2, zc_2, by decide, lw_in (i := 281) (by decide +kernel) (by decide +kernel), rfl, by decide, Or.inr (Or.inr (Or.inl ⟨rfl, rfl⟩)), rfl⟩
theorem fl_X8_153 : zFld RX8 153 2 2 0 false := ⟨RX2, TX2, 12, tyX2, zc_2, by decide, lw_in (i := 272) (by decide +kernel) (by decide +kernel), rfl, by decide, Or.inl ⟨rfl, rfl⟩, rfl⟩
theorem fl_X8_161 : zFld RX8 161 8 2 0 false := ⟨RX8, TX8, 10, tyX8, zc_8, by decide, lw_in (i := 380) (by decide +kernel) (by decide +kernel), rfl, by decide, Or.inl ⟨rfl, rfl⟩, rfl⟩
theorem fl_X10_7 : zFld RX10 7 10 0 2 true := ⟨RX10, TX10, 18, tyX10, zc_10, by decide, lw_in (i := 1234) (by decide +kernel) (by decide +kernel), rfl, by decide, Or.inr (Or.inr (Or.inr ⟨rfl, Or.inr ⟨_, rfl⟩⟩)), rfl⟩
theorem fl_X10_13 : zFld RX10 13 10 5 2 true := ⟨RX10, TX10, 18, tyX10, zc_10, by decide, lw_in (i := 1239) (by decide +kernel) (by decide +kernel), rfl, by decide, Or.inr (Or.inr (Or.inr ⟨rfl, Or.inr ⟨_, rfl⟩⟩)), rfl⟩
theorem fl_X10_17 : zFld RX10 17 10 6 2 true := ⟨RX10, TX10, 18, tyX10, zc_10, by decide, lw_in (i := 1240) (by decide +kernel) (by decide +kernel), rfl, by decide, Or.inr (Or.inr (Or.inr ⟨rfl, Or.inr ⟨_, rfl⟩⟩)), rfl⟩
theorem fl_X10_20 : zFld RX10 20 10 14 0 false := ⟨RX10, TX10, 18, tyX10, zc_10, by decide, lw_in (i := 1248) (by decide +kernel) (by decide +kernel), rfl, by decide, Or.inl ⟨rfl, rfl⟩, rfl⟩
theorem fl_X10_24 : zFld RX10 24 10 15 0 false := ⟨RX10, TX10, 18, tyX10, zc_10, by decide, lw_in (i := 1249) (by decide +kernel) (by decide +kernel), rfl, by decide, Or.inl ⟨rfl, rfl⟩, rfl⟩
theorem fl_X10_27 : zFld RX10 27 10 16 2 true := ⟨RX10, TX10, 18, tyX10, zc_10, by decide, lw_in (i := 1250) (by decide +kernel) (by decide +kernel), rfl, by decide, Or.inr (Or.inr (Or.inr ⟨rfl, Or.inr ⟨_, rfl⟩⟩)), rfl⟩
theorem fl_X10_30 : zFld RX10 30 10 17 2 true := ⟨RX10, TX10, 18, tyX10, zc_10, by decide, lw_in (i := 1251) (by decide +kernel) (by decide +kernel), rfl, by decide, Or.inr (Or.inr (Or.inr ⟨rfl, Or.inr ⟨_, rfl⟩⟩)), rfl⟩
theorem fl_X10_37 : zFld RX10 37 10 1 0 false := ⟨RX10, TX10, 18, tyX10, zc_10, by decide, lw_in (i := 1235) (by decide +kernel) (by decide +kernel), rfl, by decide, Or.inl ⟨rfl, rfl⟩, rfl⟩
theorem fl_X10_97 : zFld RX10 97 10 4 0 false := ⟨RX10, TX10, 18, tyX10, zc_10, by decide, lw_in (i := 1238) (by decide +kernel) (by decide +kernel), rfl, by decide, Or.inl ⟨rfl, rfl⟩, rfl⟩
theorem fl_X10_118 : zFld RX10 118 10 3 3 false := ⟨RX10, TX10, 18, tyX10, zc_10, by decide, lw_in (i := 1237) (by decide +kernel) (by decide +kernel), rfl, by decide, Or.inr (Or.inr (Or.inl ⟨rfl, rfl⟩)), rfl⟩
theorem fl_X10_199 : zFld RX10 199 10 7 0 false := ⟨RX10, TX10, 18, tyX10, zc_10, by decide, lw_in (i := 1241) (by decide +kernel) (by decide +kernel), rfl, by decide, Or.inl ⟨rfl, rfl⟩, rfl⟩
theorem fl_X10_205 : zFld RX10 205 10 8 0 false := ⟨RX10, TX10, 18, tyX10, zc_10, by decide, lw_in (i := 1242) (by decide +kernel) (by decide +kernel), rfl, by decide, Or.inl ⟨rfl, rfl⟩, rfl⟩
theorem fl_X10_208 : zFld RX10 208 10 11 0 false := ⟨RX10, TX10, 18, tyX10, zc_10, by decide, lw_in (i := 1245) (by decide +kernel) (by decide +kernel), rfl, by decide, Or.inl ⟨rfl, rfl⟩, rfl⟩
theorem fl_X10_214 : zFld RX10 214 10 10 0 false := ⟨RX10, TX10, 18, tyX10, zc_10, by decide, lw_in (i := 1244) (by decide +kernel) (by decide +kernel), rfl, by decide, Or.inl ⟨rfl, rfl⟩, rfl⟩
theorem fl_X10_217 : zFld RX10 217 10 9 0 false := ⟨RX10, TX10, 18, tyX10, zc_10, by decide, lw_in (i := 1243) (by decide +kernel) (by decide +kernel), rfl, by decide, Or.inl ⟨rfl, rfl⟩, rfl⟩
theorem fl_X10_226 : zFld RX10 226 10 12 0 false := ⟨RX10, TX10, 18, tyX10, zc_10, by decide, lw_in (i := 1246) (by decide +kernel) (by decide +kernel), rfl, by decide, Or.inl ⟨rfl, rfl⟩, rfl⟩
theorem fl_X10_243 : zFld RX10 243 10 13 0 false := ⟨RX10, TX10, 18, tyX10, zc_10, by decide, lw_in (i := 1247) (by decide +kernel) (by decide +kernel), rfl, by decide, Or.inl ⟨rfl, rfl⟩, rfl⟩
theorem fl_X10_302 : zFld RX10 302 10 2 0 false := ⟨RX10, TX10, 18, tyX10, zc_10, by decide, lw_in (i := 1236) (by decide +kernel) (by decide +kernel), rfl, by decide, Or.inl ⟨rfl, rfl⟩, rfl⟩
theorem cl_X9_20 : Cond.classLink RX9 20 RX5 ∈ lw_all := lw_in (i := 100) (by decide +kernel) (by decide +kernel)
theorem cl_X9_34 : Cond.classLink RX9 34 RX8 ∈ lw_all := lw_in (i := 372) (by decide +kernel) (by decide +kernel)
theorem cl_X9_41 : Cond.classLink RX9 41 RX0 ∈ lw_all := lw_in (i := 411) (by decide +kernel) (by decide +kernel)
theorem cl_X4_9 : Cond.classLink RX4 9 RX3 ∈ lw_all := lw_in (i := 163) (by decide +kernel) (by decide +kernel)
theorem cl_X4_31 : Cond.classLink RX4 31 RX7 ∈ lw_all := lw_in (i := 165) (by decide +kernel) (by decide +kernel)
theorem cl_X5_9 : Cond.classLink RX5 9 RX4 ∈ lw_all := lw_in (i := 106) (by decide +kernel) (by decide +kernel)
theorem cl_X5_17 : Cond.classLink RX5 17 RX2 ∈ lw_all := lw_in (i := 108) (by decide +kernel) (by decide +kernel)
theorem cl_X5_23 : Cond.classLink RX5 23 RX3 ∈ lw_all := lw_in (i := 110) (by decide +kernel) (by decide +kernel)
theorem cl_X5_33 : Cond.classLink RX5 33 RX1 ∈ lw_all := lw_in (i := 131) (by decide +kernel) (by decide +kernel)
theorem cl_X5_108 : Cond.classLink RX5 108 RX6 ∈ lw_all := lw_in (i := 968) (by decide +kernel) (by decide +kernel)
theorem cl_L_7 : Cond.classLink RL 7 RX9 ∈ lw_all := lw_in (i := 92) (by decide +kernel) (by decide +kernel)
theorem cl_L_10 : Cond.classLink RL 10 RX10 ∈ lw_all := lw_in (i := 1220) (by decide +kernel) (by decide +kernel)
theorem zi_0 : Cond.instantiable RX0 3 ∈ lw_all := lw_in (i := 412) (by decide +kernel) (by decide +kernel)
theorem zn_0 : Cond.initialized RX0 ∈ lw_all := lw_in (i := 82) (by decide +kernel) (by decide +kernel)
theorem zd_0 : ∀ k, k < 3 → defaultValue (tyX0 k) = (if ztc 0 k = 1 then .long 0 else if ztc 0 k = 2 then .null else .int 0) := by
  intro k hk
  rcases (show k = 0 ∨ k = 1 ∨ k = 2 by omega) with rfl | rfl | rfl <;> rfl
theorem zi_1 : Cond.instantiable RX1 6 ∈ lw_all := lw_in (i := 132) (by decide +kernel) (by decide +kernel)
theorem zn_1 : Cond.initialized RX1 ∈ lw_all := lw_in (i := 77) (by decide +kernel) (by decide +kernel)
theorem zd_1 : ∀ k, k < 6 → defaultValue (tyX1 k) = (if ztc 1 k = 1 then .long 0 else if ztc 1 k = 2 then .null else .int 0) := by
  intro k hk
  rcases (show k = 0 ∨ k = 1 ∨ k = 2 ∨ k = 3 ∨ k = 4 ∨ k = 5 by omega) with rfl | rfl | rfl | rfl | rfl | rfl <;> rfl
theorem zi_2 : Cond.instantiable RX2 12 ∈ lw_all := lw_in (i := 261) (by decide +kernel) (by decide +kernel)
theorem zn_2 : Cond.initialized RX2 ∈ lw_all := lw_in (i := 80) (by decide +kernel) (by decide +kernel)
theorem zd_2 : ∀ k, k < 12 → defaultValue (tyX2 k) = (if ztc 2 k = 1 then .long 0 else if ztc 2 k = 2 then .null else .int 0) := by
  intro k hk
  rcases (show k = 0 ∨ k = 1 ∨ k = 2 ∨ k = 3 ∨ k = 4 ∨ k = 5 ∨ k = 6 ∨ k = 7 ∨ k = 8 ∨ k = 9 ∨ k = 10 ∨ k = 11 by omega) with rfl | rfl | rfl | rfl | rfl | rfl | rfl | rfl | rfl | rfl | rfl | rfl <;> rfl
theorem zi_3 : Cond.instantiable RX3 3 ∈ lw_all := lw_in (i := 111) (by decide +kernel) (by decide +kernel)
theorem zn_3 : Cond.initialized RX3 ∈ lw_all := lw_in (i := 76) (by decide +kernel) (by decide +kernel)
theorem zd_3 : ∀ k, k < 3 → defaultValue (tyX3 k) = (if ztc 3 k = 1 then .long 0 else if ztc 3 k = 2 then .null else .int 0) := by
  intro k hk
  rcases (show k = 0 ∨ k = 1 ∨ k = 2 by omega) with rfl | rfl | rfl <;> rfl
theorem zi_4 : Cond.instantiable RX4 17 ∈ lw_all := lw_in (i := 158) (by decide +kernel) (by decide +kernel)
theorem zn_4 : Cond.initialized RX4 ∈ lw_all := lw_in (i := 78) (by decide +kernel) (by decide +kernel)
theorem zd_4 : ∀ k, k < 17 → defaultValue (tyX4 k) = (if ztc 4 k = 1 then .long 0 else if ztc 4 k = 2 then .null else .int 0) := by
  intro k hk
  rcases (show k = 0 ∨ k = 1 ∨ k = 2 ∨ k = 3 ∨ k = 4 ∨ k = 5 ∨ k = 6 ∨ k = 7 ∨ k = 8 ∨ k = 9 ∨ k = 10 ∨ k = 11 ∨ k = 12 ∨ k = 13 ∨ k = 14 ∨ k = 15 ∨ k = 16 by omega) with rfl | rfl | rfl | rfl | rfl | rfl | rfl | rfl | rfl | rfl | rfl | rfl | rfl | rfl | rfl | rfl | rfl <;> rfl
theorem zi_5 : Cond.instantiable RX5 12 ∈ lw_all := lw_in (i := 101) (by decide +kernel) (by decide +kernel)
theorem zn_5 : Cond.initialized RX5 ∈ lw_all := lw_in (i := 75) (by decide +kernel) (by decide +kernel)
theorem zd_5 : ∀ k, k < 12 → defaultValue (tyX5 k) = (if ztc 5 k = 1 then .long 0 else if ztc 5 k = 2 then .null else .int 0) := by
  intro k hk
  rcases (show k = 0 ∨ k = 1 ∨ k = 2 ∨ k = 3 ∨ k = 4 ∨ k = 5 ∨ k = 6 ∨ k = 7 ∨ k = 8 ∨ k = 9 ∨ k = 10 ∨ k = 11 by omega) with rfl | rfl | rfl | rfl | rfl | rfl | rfl | rfl | rfl | rfl | rfl | rfl <;> rfl
theorem zi_6 : Cond.instantiable RX6 10 ∈ lw_all := lw_in (i := 969) (by decide +kernel) (by decide +kernel)
theorem zn_6 : Cond.initialized RX6 ∈ lw_all := lw_in (i := 90) (by decide +kernel) (by decide +kernel)
theorem zd_6 : ∀ k, k < 10 → defaultValue (tyX6 k) = (if ztc 6 k = 1 then .long 0 else if ztc 6 k = 2 then .null else .int 0) := by
  intro k hk
  rcases (show k = 0 ∨ k = 1 ∨ k = 2 ∨ k = 3 ∨ k = 4 ∨ k = 5 ∨ k = 6 ∨ k = 7 ∨ k = 8 ∨ k = 9 by omega) with rfl | rfl | rfl | rfl | rfl | rfl | rfl | rfl | rfl | rfl <;> rfl
theorem zi_7 : Cond.instantiable RX7 6 ∈ lw_all := lw_in (i := 166) (by decide +kernel) (by decide +kernel)
theorem zn_7 : Cond.initialized RX7 ∈ lw_all := lw_in (i := 79) (by decide +kernel) (by decide +kernel)
theorem zd_7 : ∀ k, k < 6 → defaultValue (tyX7 k) = (if ztc 7 k = 1 then .long 0 else if ztc 7 k = 2 then .null else .int 0) := by
  intro k hk
  rcases (show k = 0 ∨ k = 1 ∨ k = 2 ∨ k = 3 ∨ k = 4 ∨ k = 5 by omega) with rfl | rfl | rfl | rfl | rfl | rfl <;> rfl
theorem zi_8 : Cond.instantiable RX8 10 ∈ lw_all := lw_in (i := 373) (by decide +kernel) (by decide +kernel)
theorem zn_8 : Cond.initialized RX8 ∈ lw_all := lw_in (i := 81) (by decide +kernel) (by decide +kernel)
theorem zd_8 : ∀ k, k < 10 → defaultValue (tyX8 k) = (if ztc 8 k = 1 then .long 0 else if ztc 8 k = 2 then .null else .int 0) := by
  intro k hk
  rcases (show k = 0 ∨ k = 1 ∨ k = 2 ∨ k = 3 ∨ k = 4 ∨ k = 5 ∨ k = 6 ∨ k = 7 ∨ k = 8 ∨ k = 9 by omega) with rfl | rfl | rfl | rfl | rfl | rfl | rfl | rfl | rfl | rfl <;> rfl
theorem zi_9 : Cond.instantiable RX9 11 ∈ lw_all := lw_in (i := 93) (by decide +kernel) (by decide +kernel)
theorem zn_9 : Cond.initialized RX9 ∈ lw_all := lw_in (i := 74) (by decide +kernel) (by decide +kernel)
theorem zd_9 : ∀ k, k < 11 → defaultValue (tyX9 k) = (if ztc 9 k = 1 then .long 0 else if ztc 9 k = 2 then .null else .int 0) := by
  intro k hk
  rcases (show k = 0 ∨ k = 1 ∨ k = 2 ∨ k = 3 ∨ k = 4 ∨ k = 5 ∨ k = 6 ∨ k = 7 ∨ k = 8 ∨ k = 9 ∨ k = 10 by omega) with rfl | rfl | rfl | rfl | rfl | rfl | rfl | rfl | rfl | rfl | rfl <;> rfl
theorem zi_10 : Cond.instantiable RX10 18 ∈ lw_all := lw_in (i := 1221) (by decide +kernel) (by decide +kernel)
theorem zn_10 : Cond.initialized RX10 ∈ lw_all := lw_in (i := 83) (by decide +kernel) (by decide +kernel)
theorem zd_10 : ∀ k, k < 18 → defaultValue (tyX10 k) = (if ztc 10 k = 1 then .long 0 else if ztc 10 k = 2 then .null else .int 0) := by
  intro k hk
  rcases (show k = 0 ∨ k = 1 ∨ k = 2 ∨ k = 3 ∨ k = 4 ∨ k = 5 ∨ k = 6 ∨ k = 7 ∨ k = 8 ∨ k = 9 ∨ k = 10 ∨ k = 11 ∨ k = 12 ∨ k = 13 ∨ k = 14 ∨ k = 15 ∨ k = 16 ∨ k = 17 by omega) with rfl | rfl | rfl | rfl | rfl | rfl | rfl | rfl | rfl | rfl | rfl | rfl | rfl | rfl | rfl | rfl | rfl | rfl <;> rfl
theorem mk_X9_20 : zMk RX9 20 5 12 := ⟨RX5, TX5, tyX5, zc_5, cl_X9_20, zi_5, zn_5, zd_5⟩
theorem mk_X9_34 : zMk RX9 34 8 10 := ⟨RX8, TX8, tyX8, zc_8, cl_X9_34, zi_8, zn_8, zd_8⟩
theorem mk_X9_41 : zMk RX9 41 0 3 := ⟨RX0, TX0, tyX0, zc_0, cl_X9_41, zi_0, zn_0, zd_0⟩
theorem mk_X4_9 : zMk RX4 9 3 3 := ⟨RX3, TX3, tyX3, zc_3, cl_X4_9, zi_3, zn_3, zd_3⟩
theorem mk_X4_31 : zMk RX4 31 7 6 := ⟨RX7, TX7, tyX7, zc_7, cl_X4_31, zi_7, zn_7, zd_7⟩
theorem mk_X5_9 : zMk RX5 9 4 17 := ⟨RX4, TX4, tyX4, zc_4, cl_X5_9, zi_4, zn_4, zd_4⟩
theorem mk_X5_17 : zMk RX5 17 2 12 := ⟨RX2, TX2, tyX2, zc_2, cl_X5_17, zi_2, zn_2, zd_2⟩
theorem mk_X5_23 : zMk RX5 23 3 3 := ⟨RX3, TX3, tyX3, zc_3, cl_X5_23, zi_3, zn_3, zd_3⟩
theorem mk_X5_33 : zMk RX5 33 1 6 := ⟨RX1, TX1, tyX1, zc_1, cl_X5_33, zi_1, zn_1, zd_1⟩
theorem mk_X5_108 : zMk RX5 108 6 10 := ⟨RX6, TX6, tyX6, zc_6, cl_X5_108, zi_6, zn_6, zd_6⟩
theorem mk_L_7 : zMk RL 7 9 11 := ⟨RX9, TX9, tyX9, zc_9, cl_L_7, zi_9, zn_9, zd_9⟩
theorem mk_L_10 : zMk RL 10 10 18 := ⟨RX10, TX10, tyX10, zc_10, cl_L_10, zi_10, zn_10, zd_10⟩
theorem ac_0 : Cond.arrayClass .byte ∈ lw_all := lw_in (i := 130) (by decide +kernel) (by decide +kernel)
theorem ac_1 : Cond.arrayClass .int ∈ lw_all := lw_in (i := 157) (by decide +kernel) (by decide +kernel)
theorem ac_2 : Cond.arrayClass .long ∈ lw_all := lw_in (i := 1289) (by decide +kernel) (by decide +kernel)
theorem ac_3 : Cond.arrayClass .boolean ∈ lw_all := lw_in (i := 427) (by decide +kernel) (by decide +kernel)
theorem kl_X5_266 : Cond.constantLong RX5 266 1000 ∈ lw_all := lw_in (i := 697) (by decide +kernel) (by decide +kernel)
theorem kl_X6_34 : Cond.constantLong RX6 34 10000 ∈ lw_all := lw_in (i := 1028) (by decide +kernel) (by decide +kernel)
theorem kl_X7_28 : Cond.constantLong RX7 28 40 ∈ lw_all := lw_in (i := 1063) (by decide +kernel) (by decide +kernel)
theorem kl_X7_30 : Cond.constantLong RX7 30 23 ∈ lw_all := lw_in (i := 1064) (by decide +kernel) (by decide +kernel)
theorem kl_X7_32 : Cond.constantLong RX7 32 10 ∈ lw_all := lw_in (i := 1065) (by decide +kernel) (by decide +kernel)
theorem kl_X10_72 : Cond.constantLong RX10 72 24 ∈ lw_all := lw_in (i := 1608) (by decide +kernel) (by decide +kernel)
theorem kl_X10_74 : Cond.constantLong RX10 74 (-1) ∈ lw_all := lw_in (i := 1535) (by decide +kernel) (by decide +kernel)
theorem kl_X10_85 : Cond.constantLong RX10 85 10000 ∈ lw_all := lw_in (i := 1501) (by decide +kernel) (by decide +kernel)
theorem kl_X10_111 : Cond.constantLong RX10 111 9999 ∈ lw_all := lw_in (i := 1405) (by decide +kernel) (by decide +kernel)
theorem kl_X10_116 : Cond.constantLong RX10 116 2 ∈ lw_all := lw_in (i := 1407) (by decide +kernel) (by decide +kernel)
theorem kl_X10_122 : Cond.constantLong RX10 122 100 ∈ lw_all := lw_in (i := 1609) (by decide +kernel) (by decide +kernel)
theorem kl_X10_124 : Cond.constantLong RX10 124 4000 ∈ lw_all := lw_in (i := 1446) (by decide +kernel) (by decide +kernel)
theorem kl_X10_134 : Cond.constantLong RX10 134 3 ∈ lw_all := lw_in (i := 1416) (by decide +kernel) (by decide +kernel)
theorem kl_X10_144 : Cond.constantLong RX10 144 1000 ∈ lw_all := lw_in (i := 1441) (by decide +kernel) (by decide +kernel)
theorem kl_X10_162 : Cond.constantLong RX10 162 40 ∈ lw_all := lw_in (i := 1642) (by decide +kernel) (by decide +kernel)
theorem kl_X10_164 : Cond.constantLong RX10 164 23 ∈ lw_all := lw_in (i := 1518) (by decide +kernel) (by decide +kernel)
theorem kl_X10_166 : Cond.constantLong RX10 166 10 ∈ lw_all := lw_in (i := 1372) (by decide +kernel) (by decide +kernel)
theorem kl_X10_173 : Cond.constantLong RX10 173 20 ∈ lw_all := lw_in (i := 1652) (by decide +kernel) (by decide +kernel)
theorem kl_X10_260 : Cond.constantLong RX10 260 6 ∈ lw_all := lw_in (i := 1352) (by decide +kernel) (by decide +kernel)
theorem kl_X10_273 : Cond.constantLong RX10 273 4 ∈ lw_all := lw_in (i := 1404) (by decide +kernel) (by decide +kernel)
theorem kl_X10_278 : Cond.constantLong RX10 278 200 ∈ lw_all := lw_in (i := 1406) (by decide +kernel) (by decide +kernel)
theorem kl_X10_314 : Cond.constantLong RX10 314 17 ∈ lw_all := lw_in (i := 1453) (by decide +kernel) (by decide +kernel)
theorem kl_X10_319 : Cond.constantLong RX10 319 11 ∈ lw_all := lw_in (i := 1462) (by decide +kernel) (by decide +kernel)
theorem kl_X10_331 : Cond.constantLong RX10 331 19 ∈ lw_all := lw_in (i := 1540) (by decide +kernel) (by decide +kernel)
theorem kl_X10_337 : Cond.constantLong RX10 337 9 ∈ lw_all := lw_in (i := 1557) (by decide +kernel) (by decide +kernel)
theorem kl_X10_339 : Cond.constantLong RX10 339 60 ∈ lw_all := lw_in (i := 1558) (by decide +kernel) (by decide +kernel)
theorem kl_X10_341 : Cond.constantLong RX10 341 30 ∈ lw_all := lw_in (i := 1559) (by decide +kernel) (by decide +kernel)
theorem kl_X10_366 : Cond.constantLong RX10 366 120 ∈ lw_all := lw_in (i := 1709) (by decide +kernel) (by decide +kernel)
theorem ki_X10_229 : Cond.constant RX10 229 99999 ∈ lw_all := lw_in (i := 1331) (by decide +kernel) (by decide +kernel)
