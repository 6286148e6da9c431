/-! fields of the program: the tables' words, by their places in lw_tbl -/
set_option maxRecDepth 100000 in
theorem wi_0 : ∀ w ∈ u_ws RX0 TX0 4, w ∈ px_tbl := px_wsin [149, 151, 153, 155] (by decide +kernel)
set_option maxRecDepth 100000 in
theorem wi_1 : ∀ w ∈ u_ws RX1 TX1 9, w ∈ px_tbl := px_wsin [451, 453, 455, 457, 459, 461, 463, 465, 467] (by decide +kernel)
set_option maxRecDepth 100000 in
theorem wi_2 : ∀ w ∈ u_ws RX2 TX2 15, w ∈ px_tbl := px_wsin [504, 506, 508, 510, 512, 514, 516, 518, 520, 522, 524, 526, 528, 530, 532] (by decide +kernel)
set_option maxRecDepth 100000 in
theorem wi_3 : ∀ w ∈ u_ws RX3 TX3 13, w ∈ px_tbl := px_wsin [353, 355, 357, 359, 361, 363, 365, 367, 369, 371, 373, 375, 377] (by decide +kernel)
set_option maxRecDepth 100000 in
theorem wi_4 : ∀ w ∈ u_ws RX4 TX4 2, w ∈ px_tbl := px_wsin [392, 394] (by decide +kernel)
set_option maxRecDepth 100000 in
theorem wi_5 : ∀ w ∈ u_ws RX5 TX5 8, w ∈ px_tbl := px_wsin [553, 555, 557, 559, 561, 563, 565, 567] (by decide +kernel)
set_option maxRecDepth 100000 in
theorem wi_6 : ∀ w ∈ u_ws RX6 TX6 1, w ∈ px_tbl := px_wsin [480] (by decide +kernel)
set_option maxRecDepth 100000 in
theorem wi_7 : ∀ w ∈ u_ws RX7 TX7 18, w ∈ px_tbl := px_wsin [243, 245, 247, 249, 251, 253, 255, 257, 259, 261, 263, 265, 267, 269, 271, 273, 275, 277] (by decide +kernel)
set_option maxRecDepth 100000 in
theorem wi_8 : ∀ w ∈ u_ws RX8 TX8 13, w ∈ px_tbl := px_wsin [603, 605, 607, 609, 611, 613, 615, 617, 619, 621, 623, 625, 627] (by decide +kernel)
set_option maxRecDepth 100000 in
theorem wi_9 : ∀ w ∈ u_ws RX9 TX9 75, w ∈ px_tbl := px_wsin [1306, 1308, 1310, 1312, 1314, 1316, 1318, 1320, 1322, 1324, 1326, 1328, 1330, 1332, 1334, 1336, 1338, 1340, 1342, 1344, 1346, 1348, 1350, 1352, 1354, 1356, 1358, 1360, 1362, 1364, 1366, 1368, 1370, 1372, 1374, 1376, 1378, 1380, 1382, 1384, 1386, 1388, 1390, 1392, 1394, 1396, 1398, 1400, 1402, 1404, 1406, 1408, 1410, 1412, 1414, 1416, 1418, 1420, 1422, 1424, 1426, 1428, 1430, 1432, 1434, 1436, 1438, 1440, 1442, 1444, 1446, 1448, 1450, 1452, 1454] (by decide +kernel)
set_option maxRecDepth 100000 in
theorem fl_X0_13 : px_fw RX0 13 0 0 := ⟨_, _, _, rfl, by decide, wi_0, px_mem1 39 (by decide +kernel) (by decide +kernel)⟩
set_option maxRecDepth 100000 in
theorem fl_X0_17 : px_fw RX0 17 0 1 := ⟨_, _, _, rfl, by decide, wi_0, px_mem1 40 (by decide +kernel) (by decide +kernel)⟩
set_option maxRecDepth 100000 in
theorem fl_X0_20 : px_fw RX0 20 0 2 := ⟨_, _, _, rfl, by decide, wi_0, px_mem1 41 (by decide +kernel) (by decide +kernel)⟩
set_option maxRecDepth 100000 in
theorem fl_X0_23 : px_fw RX0 23 0 3 := ⟨_, _, _, rfl, by decide, wi_0, px_mem1 42 (by decide +kernel) (by decide +kernel)⟩
theorem fp_X0_23 : px_pw RX0 23 0 3 (px_kd 1) := by
  obtain ⟨C, T, N, h1, h2, h3, h4⟩ := fl_X0_23
  cases h1
  exact ⟨_, _, _, tyX0, rfl, h2, h3, h4, tyX0_ok, nmX0, rfl, rfl⟩
def ft_X0 : px_FT := [(13, 0, 0, 0), (17, 0, 1, 0), (20, 0, 2, 0), (23, 0, 3, 1)]
theorem ft_X0_ok : px_FTok RX0 ft_X0 := List.forall_mem_cons.mpr ⟨⟨fl_X0_13, fun h => absurd rfl h⟩, List.forall_mem_cons.mpr ⟨⟨fl_X0_17, fun h => absurd rfl h⟩, List.forall_mem_cons.mpr ⟨⟨fl_X0_20, fun h => absurd rfl h⟩, List.forall_mem_cons.mpr ⟨⟨fl_X0_23, fun _ => fp_X0_23⟩, fun _ h => absurd h List.not_mem_nil⟩⟩⟩⟩
set_option maxRecDepth 100000 in
theorem fl_X1_9 : px_fw RX1 9 1 5 := ⟨_, _, _, rfl, by decide, wi_1, px_mem2 87 (by decide +kernel) (by decide +kernel)⟩
set_option maxRecDepth 100000 in
theorem fl_X1_15 : px_fw RX1 15 1 6 := ⟨_, _, _, rfl, by decide, wi_1, px_mem2 91 (by decide +kernel) (by decide +kernel)⟩
set_option maxRecDepth 100000 in
theorem fl_X1_18 : px_fw RX1 18 1 7 := ⟨_, _, _, rfl, by decide, wi_1, px_mem2 96 (by decide +kernel) (by decide +kernel)⟩
set_option maxRecDepth 100000 in
theorem fl_X1_21 : px_fw RX1 21 1 8 := ⟨_, _, _, rfl, by decide, wi_1, px_mem2 101 (by decide +kernel) (by decide +kernel)⟩
set_option maxRecDepth 100000 in
theorem fl_X1_24 : px_fw RX1 24 1 1 := ⟨_, _, _, rfl, by decide, wi_1, px_mem2 69 (by decide +kernel) (by decide +kernel)⟩
theorem fp_X1_24 : px_pw RX1 24 1 1 (px_kd 1) := by
  obtain ⟨C, T, N, h1, h2, h3, h4⟩ := fl_X1_24
  cases h1
  exact ⟨_, _, _, tyX1, rfl, h2, h3, h4, tyX1_ok, nmX1, rfl, rfl⟩
set_option maxRecDepth 100000 in
theorem fl_X1_28 : px_fw RX1 28 1 2 := ⟨_, _, _, rfl, by decide, wi_1, px_mem2 72 (by decide +kernel) (by decide +kernel)⟩
theorem fp_X1_28 : px_pw RX1 28 1 2 (px_kd 1) := by
  obtain ⟨C, T, N, h1, h2, h3, h4⟩ := fl_X1_28
  cases h1
  exact ⟨_, _, _, tyX1, rfl, h2, h3, h4, tyX1_ok, nmX1, rfl, rfl⟩
set_option maxRecDepth 100000 in
theorem fl_X1_31 : px_fw RX1 31 1 3 := ⟨_, _, _, rfl, by decide, wi_1, px_mem2 76 (by decide +kernel) (by decide +kernel)⟩
theorem fp_X1_31 : px_pw RX1 31 1 3 (px_kd 1) := by
  obtain ⟨C, T, N, h1, h2, h3, h4⟩ := fl_X1_31
  cases h1
  exact ⟨_, _, _, tyX1, rfl, h2, h3, h4, tyX1_ok, nmX1, rfl, rfl⟩
set_option maxRecDepth 100000 in
theorem fl_X1_38 : px_fw RX1 38 7 11 := ⟨_, _, _, rfl, by decide, wi_7, px_mem1 115 (by decide +kernel) (by decide +kernel)⟩
set_option maxRecDepth 100000 in
theorem fl_X1_41 : px_fw RX1 41 1 0 := ⟨_, _, _, rfl, by decide, wi_1, px_mem2 65 (by decide +kernel) (by decide +kernel)⟩
theorem fp_X1_41 : px_pw RX1 41 1 0 (px_kd 1) := by
  obtain ⟨C, T, N, h1, h2, h3, h4⟩ := fl_X1_41
  cases h1
  exact ⟨_, _, _, tyX1, rfl, h2, h3, h4, tyX1_ok, nmX1, rfl, rfl⟩
set_option maxRecDepth 100000 in
theorem fl_X1_48 : px_fw RX1 48 1 4 := ⟨_, _, _, rfl, by decide, wi_1, px_mem2 84 (by decide +kernel) (by decide +kernel)⟩
theorem fp_X1_48 : px_pw RX1 48 1 4 (px_kd 1) := by
  obtain ⟨C, T, N, h1, h2, h3, h4⟩ := fl_X1_48
  cases h1
  exact ⟨_, _, _, tyX1, rfl, h2, h3, h4, tyX1_ok, nmX1, rfl, rfl⟩
set_option maxRecDepth 100000 in
theorem fl_X1_51 : px_fw RX1 51 7 8 := ⟨_, _, _, rfl, by decide, wi_7, px_mem1 104 (by decide +kernel) (by decide +kernel)⟩
def ft_X1 : px_FT := [(9, 1, 5, 0), (15, 1, 6, 0), (18, 1, 7, 0), (21, 1, 8, 0), (24, 1, 1, 1), (28, 1, 2, 1), (31, 1, 3, 1), (38, 7, 11, 0), (41, 1, 0, 1), (48, 1, 4, 1), (51, 7, 8, 0)]
theorem ft_X1_ok : px_FTok RX1 ft_X1 := List.forall_mem_cons.mpr ⟨⟨fl_X1_9, fun h => absurd rfl h⟩, List.forall_mem_cons.mpr ⟨⟨fl_X1_15, fun h => absurd rfl h⟩, List.forall_mem_cons.mpr ⟨⟨fl_X1_18, fun h => absurd rfl h⟩, List.forall_mem_cons.mpr ⟨⟨fl_X1_21, fun h => absurd rfl h⟩, List.forall_mem_cons.mpr ⟨⟨fl_X1_24, fun _ => fp_X1_24⟩, List.forall_mem_cons.mpr ⟨⟨fl_X1_28, fun _ => fp_X1_28⟩, List.forall_mem_cons.mpr ⟨⟨fl_X1_31, fun _ => fp_X1_31⟩, List.forall_mem_cons.mpr ⟨⟨fl_X1_38, fun h => absurd rfl h⟩, List.forall_mem_cons.mpr ⟨⟨fl_X1_41, fun _ => fp_X1_41⟩, List.forall_mem_cons.mpr ⟨⟨fl_X1_48, fun _ => fp_X1_48⟩, List.forall_mem_cons.mpr ⟨⟨fl_X1_51, fun h => absurd rfl h⟩, fun _ h => absurd h List.not_mem_nil⟩⟩⟩⟩⟩⟩⟩⟩⟩⟩⟩
set_option maxRecDepth 100000 in
theorem fl_X2_9 : px_fw RX2 9 2 4 := ⟨_, _, _, rfl, by decide, wi_2, px_mem2 145 (by decide +kernel) (by decide +kernel)⟩
set_option maxRecDepth 100000 in
theorem fl_X2_15 : px_fw RX2 15 2 5 := ⟨_, _, _, rfl, by decide, wi_2, px_mem2 147 (by decide +kernel) (by decide +kernel)⟩
set_option maxRecDepth 100000 in
theorem fl_X2_21 : px_fw RX2 21 2 7 := ⟨_, _, _, rfl, by decide, wi_2, px_mem2 150 (by decide +kernel) (by decide +kernel)⟩
set_option maxRecDepth 100000 in
theorem fl_X2_25 : px_fw RX2 25 2 8 := ⟨_, _, _, rfl, by decide, wi_2, px_mem2 151 (by decide +kernel) (by decide +kernel)⟩
set_option maxRecDepth 100000 in
theorem fl_X2_33 : px_fw RX2 33 2 9 := ⟨_, _, _, rfl, by decide, wi_2, px_mem2 152 (by decide +kernel) (by decide +kernel)⟩
set_option maxRecDepth 100000 in
theorem fl_X2_37 : px_fw RX2 37 2 10 := ⟨_, _, _, rfl, by decide, wi_2, px_mem2 153 (by decide +kernel) (by decide +kernel)⟩
set_option maxRecDepth 100000 in
theorem fl_X2_40 : px_fw RX2 40 2 11 := ⟨_, _, _, rfl, by decide, wi_2, px_mem2 154 (by decide +kernel) (by decide +kernel)⟩
set_option maxRecDepth 100000 in
theorem fl_X2_43 : px_fw RX2 43 2 12 := ⟨_, _, _, rfl, by decide, wi_2, px_mem2 155 (by decide +kernel) (by decide +kernel)⟩
set_option maxRecDepth 100000 in
theorem fl_X2_46 : px_fw RX2 46 2 13 := ⟨_, _, _, rfl, by decide, wi_2, px_mem2 156 (by decide +kernel) (by decide +kernel)⟩
set_option maxRecDepth 100000 in
theorem fl_X2_49 : px_fw RX2 49 2 6 := ⟨_, _, _, rfl, by decide, wi_2, px_mem2 149 (by decide +kernel) (by decide +kernel)⟩
set_option maxRecDepth 100000 in
theorem fl_X2_53 : px_fw RX2 53 4 0 := ⟨_, _, _, rfl, by decide, wi_4, px_mem2 42 (by decide +kernel) (by decide +kernel)⟩
theorem fp_X2_53 : px_pw RX2 53 4 0 (px_kd 3) := by
  obtain ⟨C, T, N, h1, h2, h3, h4⟩ := fl_X2_53
  cases h1
  exact ⟨_, _, _, tyX4, rfl, h2, h3, h4, tyX4_ok, nmX4, rfl, rfl⟩
set_option maxRecDepth 100000 in
theorem fl_X2_59 : px_fw RX2 59 7 0 := ⟨_, _, _, rfl, by decide, wi_7, px_mem1 71 (by decide +kernel) (by decide +kernel)⟩
theorem fp_X2_59 : px_pw RX2 59 7 0 (px_kd 1) := by
  obtain ⟨C, T, N, h1, h2, h3, h4⟩ := fl_X2_59
  cases h1
  exact ⟨_, _, _, tyX7, rfl, h2, h3, h4, tyX7_ok, nmX7, rfl, rfl⟩
set_option maxRecDepth 100000 in
theorem fl_X2_65 : px_fw RX2 65 1 4 := ⟨_, _, _, rfl, by decide, wi_1, px_mem2 81 (by decide +kernel) (by decide +kernel)⟩
theorem fp_X2_65 : px_pw RX2 65 1 4 (px_kd 1) := by
  obtain ⟨C, T, N, h1, h2, h3, h4⟩ := fl_X2_65
  cases h1
  exact ⟨_, _, _, tyX1, rfl, h2, h3, h4, tyX1_ok, nmX1, rfl, rfl⟩
set_option maxRecDepth 100000 in
theorem fl_X2_72 : px_fw RX2 72 2 0 := ⟨_, _, _, rfl, by decide, wi_2, px_mem2 137 (by decide +kernel) (by decide +kernel)⟩
theorem fp_X2_72 : px_pw RX2 72 2 0 (px_kd 1) := by
  obtain ⟨C, T, N, h1, h2, h3, h4⟩ := fl_X2_72
  cases h1
  exact ⟨_, _, _, tyX2, rfl, h2, h3, h4, tyX2_ok, nmX2, rfl, rfl⟩
set_option maxRecDepth 100000 in
theorem fl_X2_79 : px_fw RX2 79 7 1 := ⟨_, _, _, rfl, by decide, wi_7, px_mem1 77 (by decide +kernel) (by decide +kernel)⟩
theorem fp_X2_79 : px_pw RX2 79 7 1 (px_kd 1) := by
  obtain ⟨C, T, N, h1, h2, h3, h4⟩ := fl_X2_79
  cases h1
  exact ⟨_, _, _, tyX7, rfl, h2, h3, h4, tyX7_ok, nmX7, rfl, rfl⟩
set_option maxRecDepth 100000 in
theorem fl_X2_101 : px_fw RX2 101 2 1 := ⟨_, _, _, rfl, by decide, wi_2, px_mem2 139 (by decide +kernel) (by decide +kernel)⟩
theorem fp_X2_101 : px_pw RX2 101 2 1 (px_kd 1) := by
  obtain ⟨C, T, N, h1, h2, h3, h4⟩ := fl_X2_101
  cases h1
  exact ⟨_, _, _, tyX2, rfl, h2, h3, h4, tyX2_ok, nmX2, rfl, rfl⟩
set_option maxRecDepth 100000 in
theorem fl_X2_108 : px_fw RX2 108 1 6 := ⟨_, _, _, rfl, by decide, wi_1, px_mem2 93 (by decide +kernel) (by decide +kernel)⟩
set_option maxRecDepth 100000 in
theorem fl_X2_111 : px_fw RX2 111 2 2 := ⟨_, _, _, rfl, by decide, wi_2, px_mem2 141 (by decide +kernel) (by decide +kernel)⟩
theorem fp_X2_111 : px_pw RX2 111 2 2 (px_kd 1) := by
  obtain ⟨C, T, N, h1, h2, h3, h4⟩ := fl_X2_111
  cases h1
  exact ⟨_, _, _, tyX2, rfl, h2, h3, h4, tyX2_ok, nmX2, rfl, rfl⟩
set_option maxRecDepth 100000 in
theorem fl_X2_118 : px_fw RX2 118 2 3 := ⟨_, _, _, rfl, by decide, wi_2, px_mem2 143 (by decide +kernel) (by decide +kernel)⟩
theorem fp_X2_118 : px_pw RX2 118 2 3 (px_kd 1) := by
  obtain ⟨C, T, N, h1, h2, h3, h4⟩ := fl_X2_118
  cases h1
  exact ⟨_, _, _, tyX2, rfl, h2, h3, h4, tyX2_ok, nmX2, rfl, rfl⟩
set_option maxRecDepth 100000 in
theorem fl_X2_121 : px_fw RX2 121 2 14 := ⟨_, _, _, rfl, by decide, wi_2, px_mem2 157 (by decide +kernel) (by decide +kernel)⟩
theorem fp_X2_121 : px_pw RX2 121 2 14 (px_kd 1) := by
  obtain ⟨C, T, N, h1, h2, h3, h4⟩ := fl_X2_121
  cases h1
  exact ⟨_, _, _, tyX2, rfl, h2, h3, h4, tyX2_ok, nmX2, rfl, rfl⟩
set_option maxRecDepth 100000 in
theorem fl_X2_143 : px_fw RX2 143 7 6 := ⟨_, _, _, rfl, by decide, wi_7, px_mem1 98 (by decide +kernel) (by decide +kernel)⟩
theorem fp_X2_143 : px_pw RX2 143 7 6 (px_kd 1) := by
  obtain ⟨C, T, N, h1, h2, h3, h4⟩ := fl_X2_143
  cases h1
  exact ⟨_, _, _, tyX7, rfl, h2, h3, h4, tyX7_ok, nmX7, rfl, rfl⟩
set_option maxRecDepth 100000 in
theorem fl_X2_150 : px_fw RX2 150 1 3 := ⟨_, _, _, rfl, by decide, wi_1, px_mem2 78 (by decide +kernel) (by decide +kernel)⟩
theorem fp_X2_150 : px_pw RX2 150 1 3 (px_kd 1) := by
  obtain ⟨C, T, N, h1, h2, h3, h4⟩ := fl_X2_150
  cases h1
  exact ⟨_, _, _, tyX1, rfl, h2, h3, h4, tyX1_ok, nmX1, rfl, rfl⟩
set_option maxRecDepth 100000 in
theorem fl_X2_156 : px_fw RX2 156 1 7 := ⟨_, _, _, rfl, by decide, wi_1, px_mem2 100 (by decide +kernel) (by decide +kernel)⟩
set_option maxRecDepth 100000 in
theorem fl_X2_163 : px_fw RX2 163 1 0 := ⟨_, _, _, rfl, by decide, wi_1, px_mem2 66 (by decide +kernel) (by decide +kernel)⟩
theorem fp_X2_163 : px_pw RX2 163 1 0 (px_kd 1) := by
  obtain ⟨C, T, N, h1, h2, h3, h4⟩ := fl_X2_163
  cases h1
  exact ⟨_, _, _, tyX1, rfl, h2, h3, h4, tyX1_ok, nmX1, rfl, rfl⟩
set_option maxRecDepth 100000 in
theorem fl_X2_166 : px_fw RX2 166 7 4 := ⟨_, _, _, rfl, by decide, wi_7, px_mem1 91 (by decide +kernel) (by decide +kernel)⟩
theorem fp_X2_166 : px_pw RX2 166 7 4 (px_kd 1) := by
  obtain ⟨C, T, N, h1, h2, h3, h4⟩ := fl_X2_166
  cases h1
  exact ⟨_, _, _, tyX7, rfl, h2, h3, h4, tyX7_ok, nmX7, rfl, rfl⟩
def ft_X2 : px_FT := [(9, 2, 4, 0), (15, 2, 5, 0), (21, 2, 7, 0), (25, 2, 8, 0), (33, 2, 9, 0), (37, 2, 10, 0), (40, 2, 11, 0), (43, 2, 12, 0), (46, 2, 13, 0), (49, 2, 6, 0), (53, 4, 0, 3), (59, 7, 0, 1), (65, 1, 4, 1), (72, 2, 0, 1), (79, 7, 1, 1), (101, 2, 1, 1), (108, 1, 6, 0), (111, 2, 2, 1), (118, 2, 3, 1), (121, 2, 14, 1), (143, 7, 6, 1), (150, 1, 3, 1), (156, 1, 7, 0), (163, 1, 0, 1), (166, 7, 4, 1)]
theorem ft_X2_ok : px_FTok RX2 ft_X2 := List.forall_mem_cons.mpr ⟨⟨fl_X2_9, fun h => absurd rfl h⟩, List.forall_mem_cons.mpr ⟨⟨fl_X2_15, fun h => absurd rfl h⟩, List.forall_mem_cons.mpr ⟨⟨fl_X2_21, fun h => absurd rfl h⟩, List.forall_mem_cons.mpr ⟨⟨fl_X2_25, fun h => absurd rfl h⟩, List.forall_mem_cons.mpr ⟨⟨fl_X2_33, fun h => absurd rfl h⟩, List.forall_mem_cons.mpr ⟨⟨fl_X2_37, fun h => absurd rfl h⟩, List.forall_mem_cons.mpr ⟨⟨fl_X2_40, fun h => absurd rfl h⟩, List.forall_mem_cons.mpr ⟨⟨fl_X2_43, fun h => absurd rfl h⟩, List.forall_mem_cons.mpr ⟨⟨fl_X2_46, fun h => absurd rfl h⟩, List.forall_mem_cons.mpr ⟨⟨fl_X2_49, fun h => absurd rfl h⟩, List.forall_mem_cons.mpr ⟨⟨fl_X2_53, fun _ => fp_X2_53⟩, List.forall_mem_cons.mpr ⟨⟨fl_X2_59, fun _ => fp_X2_59⟩, List.forall_mem_cons.mpr ⟨⟨fl_X2_65, fun _ => fp_X2_65⟩, List.forall_mem_cons.mpr ⟨⟨fl_X2_72, fun _ => fp_X2_72⟩, List.forall_mem_cons.mpr ⟨⟨fl_X2_79, fun _ => fp_X2_79⟩, List.forall_mem_cons.mpr ⟨⟨fl_X2_101, fun _ => fp_X2_101⟩, List.forall_mem_cons.mpr ⟨⟨fl_X2_108, fun h => absurd rfl h⟩, List.forall_mem_cons.mpr ⟨⟨fl_X2_111, fun _ => fp_X2_111⟩, List.forall_mem_cons.mpr ⟨⟨fl_X2_118, fun _ => fp_X2_118⟩, List.forall_mem_cons.mpr ⟨⟨fl_X2_121, fun _ => fp_X2_121⟩, List.forall_mem_cons.mpr ⟨⟨fl_X2_143, fun _ => fp_X2_143⟩, List.forall_mem_cons.mpr ⟨⟨fl_X2_150, fun _ => fp_X2_150⟩, List.forall_mem_cons.mpr ⟨⟨fl_X2_156, fun h => absurd rfl h⟩, List.forall_mem_cons.mpr ⟨⟨fl_X2_163, fun _ => fp_X2_163⟩, List.forall_mem_cons.mpr ⟨⟨fl_X2_166, fun _ => fp_X2_166⟩, fun _ h => absurd h List.not_mem_nil⟩⟩⟩⟩⟩⟩⟩⟩⟩⟩⟩⟩⟩⟩⟩⟩⟩⟩⟩⟩⟩⟩⟩⟩⟩
set_option maxRecDepth 100000 in
theorem fl_X3_9 : px_fw RX3 9 3 1 := ⟨_, _, _, rfl, by decide, wi_3, px_mem1 234 (by decide +kernel) (by decide +kernel)⟩
theorem fp_X3_9 : px_pw RX3 9 3 1 (px_kd 1) := by
  obtain ⟨C, T, N, h1, h2, h3, h4⟩ := fl_X3_9
  cases h1
  exact ⟨_, _, _, tyX3, rfl, h2, h3, h4, tyX3_ok, nmX3, rfl, rfl⟩
set_option maxRecDepth 100000 in
theorem fl_X3_15 : px_fw RX3 15 3 2 := ⟨_, _, _, rfl, by decide, wi_3, px_mem1 236 (by decide +kernel) (by decide +kernel)⟩
set_option maxRecDepth 100000 in
theorem fl_X3_19 : px_fw RX3 19 3 3 := ⟨_, _, _, rfl, by decide, wi_3, px_mem1 237 (by decide +kernel) (by decide +kernel)⟩
set_option maxRecDepth 100000 in
theorem fl_X3_23 : px_fw RX3 23 3 4 := ⟨_, _, _, rfl, by decide, wi_3, px_mem1 238 (by decide +kernel) (by decide +kernel)⟩
set_option maxRecDepth 100000 in
theorem fl_X3_27 : px_fw RX3 27 3 5 := ⟨_, _, _, rfl, by decide, wi_3, px_mem1 239 (by decide +kernel) (by decide +kernel)⟩
set_option maxRecDepth 100000 in
theorem fl_X3_30 : px_fw RX3 30 3 6 := ⟨_, _, _, rfl, by decide, wi_3, px_mem2 0 (by decide +kernel) (by decide +kernel)⟩
set_option maxRecDepth 100000 in
theorem fl_X3_49 : px_fw RX3 49 3 0 := ⟨_, _, _, rfl, by decide, wi_3, px_mem1 233 (by decide +kernel) (by decide +kernel)⟩
theorem fp_X3_49 : px_pw RX3 49 3 0 (px_kd 1) := by
  obtain ⟨C, T, N, h1, h2, h3, h4⟩ := fl_X3_49
  cases h1
  exact ⟨_, _, _, tyX3, rfl, h2, h3, h4, tyX3_ok, nmX3, rfl, rfl⟩
set_option maxRecDepth 100000 in
theorem fl_X3_51 : px_fw RX3 51 3 12 := ⟨_, _, _, rfl, by decide, wi_3, px_mem2 6 (by decide +kernel) (by decide +kernel)⟩
theorem fp_X3_51 : px_pw RX3 51 3 12 (px_kd 3) := by
  obtain ⟨C, T, N, h1, h2, h3, h4⟩ := fl_X3_51
  cases h1
  exact ⟨_, _, _, tyX3, rfl, h2, h3, h4, tyX3_ok, nmX3, rfl, rfl⟩
set_option maxRecDepth 100000 in
theorem fl_X3_60 : px_fw RX3 60 3 9 := ⟨_, _, _, rfl, by decide, wi_3, px_mem2 3 (by decide +kernel) (by decide +kernel)⟩
theorem fp_X3_60 : px_pw RX3 60 3 9 (px_kd 1) := by
  obtain ⟨C, T, N, h1, h2, h3, h4⟩ := fl_X3_60
  cases h1
  exact ⟨_, _, _, tyX3, rfl, h2, h3, h4, tyX3_ok, nmX3, rfl, rfl⟩
set_option maxRecDepth 100000 in
theorem fl_X3_63 : px_fw RX3 63 3 10 := ⟨_, _, _, rfl, by decide, wi_3, px_mem2 4 (by decide +kernel) (by decide +kernel)⟩
theorem fp_X3_63 : px_pw RX3 63 3 10 (px_kd 1) := by
  obtain ⟨C, T, N, h1, h2, h3, h4⟩ := fl_X3_63
  cases h1
  exact ⟨_, _, _, tyX3, rfl, h2, h3, h4, tyX3_ok, nmX3, rfl, rfl⟩
set_option maxRecDepth 100000 in
theorem fl_X3_66 : px_fw RX3 66 3 8 := ⟨_, _, _, rfl, by decide, wi_3, px_mem2 2 (by decide +kernel) (by decide +kernel)⟩
theorem fp_X3_66 : px_pw RX3 66 3 8 (px_kd 1) := by
  obtain ⟨C, T, N, h1, h2, h3, h4⟩ := fl_X3_66
  cases h1
  exact ⟨_, _, _, tyX3, rfl, h2, h3, h4, tyX3_ok, nmX3, rfl, rfl⟩
set_option maxRecDepth 100000 in
theorem fl_X3_83 : px_fw RX3 83 3 11 := ⟨_, _, _, rfl, by decide, wi_3, px_mem2 5 (by decide +kernel) (by decide +kernel)⟩
theorem fp_X3_83 : px_pw RX3 83 3 11 (px_kd 1) := by
  obtain ⟨C, T, N, h1, h2, h3, h4⟩ := fl_X3_83
  cases h1
  exact ⟨_, _, _, tyX3, rfl, h2, h3, h4, tyX3_ok, nmX3, rfl, rfl⟩
set_option maxRecDepth 100000 in
theorem fl_X3_86 : px_fw RX3 86 3 7 := ⟨_, _, _, rfl, by decide, wi_3, px_mem2 1 (by decide +kernel) (by decide +kernel)⟩
theorem fp_X3_86 : px_pw RX3 86 3 7 (px_kd 1) := by
  obtain ⟨C, T, N, h1, h2, h3, h4⟩ := fl_X3_86
  cases h1
  exact ⟨_, _, _, tyX3, rfl, h2, h3, h4, tyX3_ok, nmX3, rfl, rfl⟩
set_option maxRecDepth 100000 in
theorem fl_X3_137 : px_fw RX3 137 7 0 := ⟨_, _, _, rfl, by decide, wi_7, px_mem1 74 (by decide +kernel) (by decide +kernel)⟩
theorem fp_X3_137 : px_pw RX3 137 7 0 (px_kd 1) := by
  obtain ⟨C, T, N, h1, h2, h3, h4⟩ := fl_X3_137
  cases h1
  exact ⟨_, _, _, tyX7, rfl, h2, h3, h4, tyX7_ok, nmX7, rfl, rfl⟩
set_option maxRecDepth 100000 in
theorem fl_X3_140 : px_fw RX3 140 7 4 := ⟨_, _, _, rfl, by decide, wi_7, px_mem1 93 (by decide +kernel) (by decide +kernel)⟩
theorem fp_X3_140 : px_pw RX3 140 7 4 (px_kd 1) := by
  obtain ⟨C, T, N, h1, h2, h3, h4⟩ := fl_X3_140
  cases h1
  exact ⟨_, _, _, tyX7, rfl, h2, h3, h4, tyX7_ok, nmX7, rfl, rfl⟩
set_option maxRecDepth 100000 in
theorem fl_X3_143 : px_fw RX3 143 7 5 := ⟨_, _, _, rfl, by decide, wi_7, px_mem1 96 (by decide +kernel) (by decide +kernel)⟩
theorem fp_X3_143 : px_pw RX3 143 7 5 (px_kd 1) := by
  obtain ⟨C, T, N, h1, h2, h3, h4⟩ := fl_X3_143
  cases h1
  exact ⟨_, _, _, tyX7, rfl, h2, h3, h4, tyX7_ok, nmX7, rfl, rfl⟩
set_option maxRecDepth 100000 in
theorem fl_X3_146 : px_fw RX3 146 7 6 := ⟨_, _, _, rfl, by decide, wi_7, px_mem1 100 (by decide +kernel) (by decide +kernel)⟩
theorem fp_X3_146 : px_pw RX3 146 7 6 (px_kd 1) := by
  obtain ⟨C, T, N, h1, h2, h3, h4⟩ := fl_X3_146
  cases h1
  exact ⟨_, _, _, tyX7, rfl, h2, h3, h4, tyX7_ok, nmX7, rfl, rfl⟩
set_option maxRecDepth 100000 in
theorem fl_X3_152 : px_fw RX3 152 7 1 := ⟨_, _, _, rfl, by decide, wi_7, px_mem1 80 (by decide +kernel) (by decide +kernel)⟩
theorem fp_X3_152 : px_pw RX3 152 7 1 (px_kd 1) := by
  obtain ⟨C, T, N, h1, h2, h3, h4⟩ := fl_X3_152
  cases h1
  exact ⟨_, _, _, tyX7, rfl, h2, h3, h4, tyX7_ok, nmX7, rfl, rfl⟩
set_option maxRecDepth 100000 in
theorem fl_X3_155 : px_fw RX3 155 7 7 := ⟨_, _, _, rfl, by decide, wi_7, px_mem1 102 (by decide +kernel) (by decide +kernel)⟩
set_option maxRecDepth 100000 in
theorem fl_X3_162 : px_fw RX3 162 7 8 := ⟨_, _, _, rfl, by decide, wi_7, px_mem1 105 (by decide +kernel) (by decide +kernel)⟩
set_option maxRecDepth 100000 in
theorem fl_X3_165 : px_fw RX3 165 7 9 := ⟨_, _, _, rfl, by decide, wi_7, px_mem1 109 (by decide +kernel) (by decide +kernel)⟩
set_option maxRecDepth 100000 in
theorem fl_X3_168 : px_fw RX3 168 7 10 := ⟨_, _, _, rfl, by decide, wi_7, px_mem1 113 (by decide +kernel) (by decide +kernel)⟩
set_option maxRecDepth 100000 in
theorem fl_X3_171 : px_fw RX3 171 7 11 := ⟨_, _, _, rfl, by decide, wi_7, px_mem1 116 (by decide +kernel) (by decide +kernel)⟩
set_option maxRecDepth 100000 in
theorem fl_X3_174 : px_fw RX3 174 7 3 := ⟨_, _, _, rfl, by decide, wi_7, px_mem1 88 (by decide +kernel) (by decide +kernel)⟩
theorem fp_X3_174 : px_pw RX3 174 7 3 (px_kd 1) := by
  obtain ⟨C, T, N, h1, h2, h3, h4⟩ := fl_X3_174
  cases h1
  exact ⟨_, _, _, tyX7, rfl, h2, h3, h4, tyX7_ok, nmX7, rfl, rfl⟩
set_option maxRecDepth 100000 in
theorem fl_X3_177 : px_fw RX3 177 7 13 := ⟨_, _, _, rfl, by decide, wi_7, px_mem1 121 (by decide +kernel) (by decide +kernel)⟩
set_option maxRecDepth 100000 in
theorem fl_X3_180 : px_fw RX3 180 7 14 := ⟨_, _, _, rfl, by decide, wi_7, px_mem1 125 (by decide +kernel) (by decide +kernel)⟩
set_option maxRecDepth 100000 in
theorem fl_X3_183 : px_fw RX3 183 7 15 := ⟨_, _, _, rfl, by decide, wi_7, px_mem1 129 (by decide +kernel) (by decide +kernel)⟩
set_option maxRecDepth 100000 in
theorem fl_X3_186 : px_fw RX3 186 7 16 := ⟨_, _, _, rfl, by decide, wi_7, px_mem1 132 (by decide +kernel) (by decide +kernel)⟩
set_option maxRecDepth 100000 in
theorem fl_X3_189 : px_fw RX3 189 7 2 := ⟨_, _, _, rfl, by decide, wi_7, px_mem1 84 (by decide +kernel) (by decide +kernel)⟩
theorem fp_X3_189 : px_pw RX3 189 7 2 (px_kd 1) := by
  obtain ⟨C, T, N, h1, h2, h3, h4⟩ := fl_X3_189
  cases h1
  exact ⟨_, _, _, tyX7, rfl, h2, h3, h4, tyX7_ok, nmX7, rfl, rfl⟩
set_option maxRecDepth 100000 in
theorem fl_X3_198 : px_fw RX3 198 7 12 := ⟨_, _, _, rfl, by decide, wi_7, px_mem1 119 (by decide +kernel) (by decide +kernel)⟩
set_option maxRecDepth 100000 in
theorem fl_X3_209 : px_fw RX3 209 7 17 := ⟨_, _, _, rfl, by decide, wi_7, px_mem1 136 (by decide +kernel) (by decide +kernel)⟩
def ft_X3 : px_FT := [(9, 3, 1, 1), (15, 3, 2, 0), (19, 3, 3, 0), (23, 3, 4, 0), (27, 3, 5, 0), (30, 3, 6, 0), (49, 3, 0, 1), (51, 3, 12, 3), (60, 3, 9, 1), (63, 3, 10, 1), (66, 3, 8, 1), (83, 3, 11, 1), (86, 3, 7, 1), (137, 7, 0, 1), (140, 7, 4, 1), (143, 7, 5, 1), (146, 7, 6, 1), (152, 7, 1, 1), (155, 7, 7, 0), (162, 7, 8, 0), (165, 7, 9, 0), (168, 7, 10, 0), (171, 7, 11, 0), (174, 7, 3, 1), (177, 7, 13, 0), (180, 7, 14, 0), (183, 7, 15, 0), (186, 7, 16, 0), (189, 7, 2, 1), (198, 7, 12, 0), (209, 7, 17, 0)]
theorem ft_X3_ok : px_FTok RX3 ft_X3 := List.forall_mem_cons.mpr ⟨⟨fl_X3_9, fun _ => fp_X3_9⟩, List.forall_mem_cons.mpr ⟨⟨fl_X3_15, fun h => absurd rfl h⟩, List.forall_mem_cons.mpr ⟨⟨fl_X3_19, fun h => absurd rfl h⟩, List.forall_mem_cons.mpr ⟨⟨fl_X3_23, fun h => absurd rfl h⟩, List.forall_mem_cons.mpr ⟨⟨fl_X3_27, fun h => absurd rfl h⟩, List.forall_mem_cons.mpr ⟨⟨fl_X3_30, fun h => absurd rfl h⟩, List.forall_mem_cons.mpr ⟨⟨fl_X3_49, fun _ => fp_X3_49⟩, List.forall_mem_cons.mpr ⟨⟨fl_X3_51, fun _ => fp_X3_51⟩, List.forall_mem_cons.mpr ⟨⟨fl_X3_60, fun _ => fp_X3_60⟩, List.forall_mem_cons.mpr ⟨⟨fl_X3_63, fun _ => fp_X3_63⟩, List.forall_mem_cons.mpr ⟨⟨fl_X3_66, fun _ => fp_X3_66⟩, List.forall_mem_cons.mpr ⟨⟨fl_X3_83, fun _ => fp_X3_83⟩, List.forall_mem_cons.mpr ⟨⟨fl_X3_86, fun _ => fp_X3_86⟩, List.forall_mem_cons.mpr ⟨⟨fl_X3_137, fun _ => fp_X3_137⟩, List.forall_mem_cons.mpr ⟨⟨fl_X3_140, fun _ => fp_X3_140⟩, List.forall_mem_cons.mpr ⟨⟨fl_X3_143, fun _ => fp_X3_143⟩, List.forall_mem_cons.mpr ⟨⟨fl_X3_146, fun _ => fp_X3_146⟩, List.forall_mem_cons.mpr ⟨⟨fl_X3_152, fun _ => fp_X3_152⟩, List.forall_mem_cons.mpr ⟨⟨fl_X3_155, fun h => absurd rfl h⟩, List.forall_mem_cons.mpr ⟨⟨fl_X3_162, fun h => absurd rfl h⟩, List.forall_mem_cons.mpr ⟨⟨fl_X3_165, fun h => absurd rfl h⟩, List.forall_mem_cons.mpr ⟨⟨fl_X3_168, fun h => absurd rfl h⟩, List.forall_mem_cons.mpr ⟨⟨fl_X3_171, fun h => absurd rfl h⟩, List.forall_mem_cons.mpr ⟨⟨fl_X3_174, fun _ => fp_X3_174⟩, List.forall_mem_cons.mpr ⟨⟨fl_X3_177, fun h => absurd rfl h⟩, List.forall_mem_cons.mpr ⟨⟨fl_X3_180, fun h => absurd rfl h⟩, List.forall_mem_cons.mpr ⟨⟨fl_X3_183, fun h => absurd rfl h⟩, List.forall_mem_cons.mpr ⟨⟨fl_X3_186, fun h => absurd rfl h⟩, List.forall_mem_cons.mpr ⟨⟨fl_X3_189, fun _ => fp_X3_189⟩, List.forall_mem_cons.mpr ⟨⟨fl_X3_198, fun h => absurd rfl h⟩, List.forall_mem_cons.mpr ⟨⟨fl_X3_209, fun h => absurd rfl h⟩, fun _ h => absurd h List.not_mem_nil⟩⟩⟩⟩⟩⟩⟩⟩⟩⟩⟩⟩⟩⟩⟩⟩⟩⟩⟩⟩⟩⟩⟩⟩⟩⟩⟩⟩⟩⟩⟩
set_option maxRecDepth 100000 in
theorem fl_X4_11 : px_fw RX4 11 4 1 := ⟨_, _, _, rfl, by decide, wi_4, px_mem2 45 (by decide +kernel) (by decide +kernel)⟩
set_option maxRecDepth 100000 in
theorem fl_X4_15 : px_fw RX4 15 4 0 := ⟨_, _, _, rfl, by decide, wi_4, px_mem2 41 (by decide +kernel) (by decide +kernel)⟩
theorem fp_X4_15 : px_pw RX4 15 4 0 (px_kd 3) := by
  obtain ⟨C, T, N, h1, h2, h3, h4⟩ := fl_X4_15
  cases h1
  exact ⟨_, _, _, tyX4, rfl, h2, h3, h4, tyX4_ok, nmX4, rfl, rfl⟩
set_option maxRecDepth 100000 in
theorem fl_X4_19 : px_fw RX4 19 7 3 := ⟨_, _, _, rfl, by decide, wi_7, px_mem1 86 (by decide +kernel) (by decide +kernel)⟩
theorem fp_X4_19 : px_pw RX4 19 7 3 (px_kd 1) := by
  obtain ⟨C, T, N, h1, h2, h3, h4⟩ := fl_X4_19
  cases h1
  exact ⟨_, _, _, tyX7, rfl, h2, h3, h4, tyX7_ok, nmX7, rfl, rfl⟩
set_option maxRecDepth 100000 in
theorem fl_X4_25 : px_fw RX4 25 1 7 := ⟨_, _, _, rfl, by decide, wi_1, px_mem2 97 (by decide +kernel) (by decide +kernel)⟩
set_option maxRecDepth 100000 in
theorem fl_X4_30 : px_fw RX4 30 7 14 := ⟨_, _, _, rfl, by decide, wi_7, px_mem1 123 (by decide +kernel) (by decide +kernel)⟩
set_option maxRecDepth 100000 in
theorem fl_X4_33 : px_fw RX4 33 7 15 := ⟨_, _, _, rfl, by decide, wi_7, px_mem1 127 (by decide +kernel) (by decide +kernel)⟩
set_option maxRecDepth 100000 in
theorem fl_X4_36 : px_fw RX4 36 7 1 := ⟨_, _, _, rfl, by decide, wi_7, px_mem1 79 (by decide +kernel) (by decide +kernel)⟩
theorem fp_X4_36 : px_pw RX4 36 7 1 (px_kd 1) := by
  obtain ⟨C, T, N, h1, h2, h3, h4⟩ := fl_X4_36
  cases h1
  exact ⟨_, _, _, tyX7, rfl, h2, h3, h4, tyX7_ok, nmX7, rfl, rfl⟩
set_option maxRecDepth 100000 in
theorem fl_X4_39 : px_fw RX4 39 1 6 := ⟨_, _, _, rfl, by decide, wi_1, px_mem2 94 (by decide +kernel) (by decide +kernel)⟩
set_option maxRecDepth 100000 in
theorem fl_X4_42 : px_fw RX4 42 7 2 := ⟨_, _, _, rfl, by decide, wi_7, px_mem1 83 (by decide +kernel) (by decide +kernel)⟩
theorem fp_X4_42 : px_pw RX4 42 7 2 (px_kd 1) := by
  obtain ⟨C, T, N, h1, h2, h3, h4⟩ := fl_X4_42
  cases h1
  exact ⟨_, _, _, tyX7, rfl, h2, h3, h4, tyX7_ok, nmX7, rfl, rfl⟩
set_option maxRecDepth 100000 in
theorem fl_X4_45 : px_fw RX4 45 7 12 := ⟨_, _, _, rfl, by decide, wi_7, px_mem1 118 (by decide +kernel) (by decide +kernel)⟩
set_option maxRecDepth 100000 in
theorem fl_X4_48 : px_fw RX4 48 7 0 := ⟨_, _, _, rfl, by decide, wi_7, px_mem1 73 (by decide +kernel) (by decide +kernel)⟩
theorem fp_X4_48 : px_pw RX4 48 7 0 (px_kd 1) := by
  obtain ⟨C, T, N, h1, h2, h3, h4⟩ := fl_X4_48
  cases h1
  exact ⟨_, _, _, tyX7, rfl, h2, h3, h4, tyX7_ok, nmX7, rfl, rfl⟩
set_option maxRecDepth 100000 in
theorem fl_X4_81 : px_fw RX4 81 7 5 := ⟨_, _, _, rfl, by decide, wi_7, px_mem1 95 (by decide +kernel) (by decide +kernel)⟩
theorem fp_X4_81 : px_pw RX4 81 7 5 (px_kd 1) := by
  obtain ⟨C, T, N, h1, h2, h3, h4⟩ := fl_X4_81
  cases h1
  exact ⟨_, _, _, tyX7, rfl, h2, h3, h4, tyX7_ok, nmX7, rfl, rfl⟩
set_option maxRecDepth 100000 in
theorem fl_X4_88 : px_fw RX4 88 7 17 := ⟨_, _, _, rfl, by decide, wi_7, px_mem1 135 (by decide +kernel) (by decide +kernel)⟩
set_option maxRecDepth 100000 in
theorem fl_X4_102 : px_fw RX4 102 1 4 := ⟨_, _, _, rfl, by decide, wi_1, px_mem2 86 (by decide +kernel) (by decide +kernel)⟩
theorem fp_X4_102 : px_pw RX4 102 1 4 (px_kd 1) := by
  obtain ⟨C, T, N, h1, h2, h3, h4⟩ := fl_X4_102
  cases h1
  exact ⟨_, _, _, tyX1, rfl, h2, h3, h4, tyX1_ok, nmX1, rfl, rfl⟩
set_option maxRecDepth 100000 in
theorem fl_X4_115 : px_fw RX4 115 1 0 := ⟨_, _, _, rfl, by decide, wi_1, px_mem2 68 (by decide +kernel) (by decide +kernel)⟩
theorem fp_X4_115 : px_pw RX4 115 1 0 (px_kd 1) := by
  obtain ⟨C, T, N, h1, h2, h3, h4⟩ := fl_X4_115
  cases h1
  exact ⟨_, _, _, tyX1, rfl, h2, h3, h4, tyX1_ok, nmX1, rfl, rfl⟩
set_option maxRecDepth 100000 in
theorem fl_X4_118 : px_fw RX4 118 1 5 := ⟨_, _, _, rfl, by decide, wi_1, px_mem2 90 (by decide +kernel) (by decide +kernel)⟩
set_option maxRecDepth 100000 in
theorem fl_X4_121 : px_fw RX4 121 7 9 := ⟨_, _, _, rfl, by decide, wi_7, px_mem1 108 (by decide +kernel) (by decide +kernel)⟩
set_option maxRecDepth 100000 in
theorem fl_X4_124 : px_fw RX4 124 7 10 := ⟨_, _, _, rfl, by decide, wi_7, px_mem1 112 (by decide +kernel) (by decide +kernel)⟩
set_option maxRecDepth 100000 in
theorem fl_X4_131 : px_fw RX4 131 1 2 := ⟨_, _, _, rfl, by decide, wi_1, px_mem2 74 (by decide +kernel) (by decide +kernel)⟩
theorem fp_X4_131 : px_pw RX4 131 1 2 (px_kd 1) := by
  obtain ⟨C, T, N, h1, h2, h3, h4⟩ := fl_X4_131
  cases h1
  exact ⟨_, _, _, tyX1, rfl, h2, h3, h4, tyX1_ok, nmX1, rfl, rfl⟩
set_option maxRecDepth 100000 in
theorem fl_X4_154 : px_fw RX4 154 1 8 := ⟨_, _, _, rfl, by decide, wi_1, px_mem2 104 (by decide +kernel) (by decide +kernel)⟩
set_option maxRecDepth 100000 in
theorem fl_X4_157 : px_fw RX4 157 1 3 := ⟨_, _, _, rfl, by decide, wi_1, px_mem2 80 (by decide +kernel) (by decide +kernel)⟩
theorem fp_X4_157 : px_pw RX4 157 1 3 (px_kd 1) := by
  obtain ⟨C, T, N, h1, h2, h3, h4⟩ := fl_X4_157
  cases h1
  exact ⟨_, _, _, tyX1, rfl, h2, h3, h4, tyX1_ok, nmX1, rfl, rfl⟩
set_option maxRecDepth 100000 in
theorem fl_X4_160 : px_fw RX4 160 7 16 := ⟨_, _, _, rfl, by decide, wi_7, px_mem1 133 (by decide +kernel) (by decide +kernel)⟩
def ft_X4 : px_FT := [(11, 4, 1, 0), (15, 4, 0, 3), (19, 7, 3, 1), (25, 1, 7, 0), (30, 7, 14, 0), (33, 7, 15, 0), (36, 7, 1, 1), (39, 1, 6, 0), (42, 7, 2, 1), (45, 7, 12, 0), (48, 7, 0, 1), (81, 7, 5, 1), (88, 7, 17, 0), (102, 1, 4, 1), (115, 1, 0, 1), (118, 1, 5, 0), (121, 7, 9, 0), (124, 7, 10, 0), (131, 1, 2, 1), (154, 1, 8, 0), (157, 1, 3, 1), (160, 7, 16, 0)]
theorem ft_X4_ok : px_FTok RX4 ft_X4 := List.forall_mem_cons.mpr ⟨⟨fl_X4_11, fun h => absurd rfl h⟩, List.forall_mem_cons.mpr ⟨⟨fl_X4_15, fun _ => fp_X4_15⟩, List.forall_mem_cons.mpr ⟨⟨fl_X4_19, fun _ => fp_X4_19⟩, List.forall_mem_cons.mpr ⟨⟨fl_X4_25, fun h => absurd rfl h⟩, List.forall_mem_cons.mpr ⟨⟨fl_X4_30, fun h => absurd rfl h⟩, List.forall_mem_cons.mpr ⟨⟨fl_X4_33, fun h => absurd rfl h⟩, List.forall_mem_cons.mpr ⟨⟨fl_X4_36, fun _ => fp_X4_36⟩, List.forall_mem_cons.mpr ⟨⟨fl_X4_39, fun h => absurd rfl h⟩, List.forall_mem_cons.mpr ⟨⟨fl_X4_42, fun _ => fp_X4_42⟩, List.forall_mem_cons.mpr ⟨⟨fl_X4_45, fun h => absurd rfl h⟩, List.forall_mem_cons.mpr ⟨⟨fl_X4_48, fun _ => fp_X4_48⟩, List.forall_mem_cons.mpr ⟨⟨fl_X4_81, fun _ => fp_X4_81⟩, List.forall_mem_cons.mpr ⟨⟨fl_X4_88, fun h => absurd rfl h⟩, List.forall_mem_cons.mpr ⟨⟨fl_X4_102, fun _ => fp_X4_102⟩, List.forall_mem_cons.mpr ⟨⟨fl_X4_115, fun _ => fp_X4_115⟩, List.forall_mem_cons.mpr ⟨⟨fl_X4_118, fun h => absurd rfl h⟩, List.forall_mem_cons.mpr ⟨⟨fl_X4_121, fun h => absurd rfl h⟩, List.forall_mem_cons.mpr ⟨⟨fl_X4_124, fun h => absurd rfl h⟩, List.forall_mem_cons.mpr ⟨⟨fl_X4_131, fun _ => fp_X4_131⟩, List.forall_mem_cons.mpr ⟨⟨fl_X4_154, fun h => absurd rfl h⟩, List.forall_mem_cons.mpr ⟨⟨fl_X4_157, fun _ => fp_X4_157⟩, List.forall_mem_cons.mpr ⟨⟨fl_X4_160, fun h => absurd rfl h⟩, fun _ h => absurd h List.not_mem_nil⟩⟩⟩⟩⟩⟩⟩⟩⟩⟩⟩⟩⟩⟩⟩⟩⟩⟩⟩⟩⟩⟩
set_option maxRecDepth 100000 in
theorem fl_X5_11 : px_fw RX5 11 5 1 := ⟨_, _, _, rfl, by decide, wi_5, px_mem2 199 (by decide +kernel) (by decide +kernel)⟩
set_option maxRecDepth 100000 in
theorem fl_X5_15 : px_fw RX5 15 5 3 := ⟨_, _, _, rfl, by decide, wi_5, px_mem2 202 (by decide +kernel) (by decide +kernel)⟩
set_option maxRecDepth 100000 in
theorem fl_X5_18 : px_fw RX5 18 5 4 := ⟨_, _, _, rfl, by decide, wi_5, px_mem2 203 (by decide +kernel) (by decide +kernel)⟩
set_option maxRecDepth 100000 in
theorem fl_X5_21 : px_fw RX5 21 5 5 := ⟨_, _, _, rfl, by decide, wi_5, px_mem2 204 (by decide +kernel) (by decide +kernel)⟩
set_option maxRecDepth 100000 in
theorem fl_X5_27 : px_fw RX5 27 5 6 := ⟨_, _, _, rfl, by decide, wi_5, px_mem2 205 (by decide +kernel) (by decide +kernel)⟩
set_option maxRecDepth 100000 in
theorem fl_X5_31 : px_fw RX5 31 5 7 := ⟨_, _, _, rfl, by decide, wi_5, px_mem2 206 (by decide +kernel) (by decide +kernel)⟩
set_option maxRecDepth 100000 in
theorem fl_X5_35 : px_fw RX5 35 5 0 := ⟨_, _, _, rfl, by decide, wi_5, px_mem2 197 (by decide +kernel) (by decide +kernel)⟩
theorem fp_X5_35 : px_pw RX5 35 5 0 (px_kd 1) := by
  obtain ⟨C, T, N, h1, h2, h3, h4⟩ := fl_X5_35
  cases h1
  exact ⟨_, _, _, tyX5, rfl, h2, h3, h4, tyX5_ok, nmX5, rfl, rfl⟩
set_option maxRecDepth 100000 in
theorem fl_X5_43 : px_fw RX5 43 5 2 := ⟨_, _, _, rfl, by decide, wi_5, px_mem2 201 (by decide +kernel) (by decide +kernel)⟩
theorem fp_X5_43 : px_pw RX5 43 5 2 (px_kd 1) := by
  obtain ⟨C, T, N, h1, h2, h3, h4⟩ := fl_X5_43
  cases h1
  exact ⟨_, _, _, tyX5, rfl, h2, h3, h4, tyX5_ok, nmX5, rfl, rfl⟩
set_option maxRecDepth 100000 in
theorem fl_X5_46 : px_fw RX5 46 4 0 := ⟨_, _, _, rfl, by decide, wi_4, px_mem2 43 (by decide +kernel) (by decide +kernel)⟩
theorem fp_X5_46 : px_pw RX5 46 4 0 (px_kd 3) := by
  obtain ⟨C, T, N, h1, h2, h3, h4⟩ := fl_X5_46
  cases h1
  exact ⟨_, _, _, tyX4, rfl, h2, h3, h4, tyX4_ok, nmX4, rfl, rfl⟩
set_option maxRecDepth 100000 in
theorem fl_X5_52 : px_fw RX5 52 7 1 := ⟨_, _, _, rfl, by decide, wi_7, px_mem1 78 (by decide +kernel) (by decide +kernel)⟩
theorem fp_X5_52 : px_pw RX5 52 7 1 (px_kd 1) := by
  obtain ⟨C, T, N, h1, h2, h3, h4⟩ := fl_X5_52
  cases h1
  exact ⟨_, _, _, tyX7, rfl, h2, h3, h4, tyX7_ok, nmX7, rfl, rfl⟩
set_option maxRecDepth 100000 in
theorem fl_X5_57 : px_fw RX5 57 1 0 := ⟨_, _, _, rfl, by decide, wi_1, px_mem2 64 (by decide +kernel) (by decide +kernel)⟩
theorem fp_X5_57 : px_pw RX5 57 1 0 (px_kd 1) := by
  obtain ⟨C, T, N, h1, h2, h3, h4⟩ := fl_X5_57
  cases h1
  exact ⟨_, _, _, tyX1, rfl, h2, h3, h4, tyX1_ok, nmX1, rfl, rfl⟩
set_option maxRecDepth 100000 in
theorem fl_X5_64 : px_fw RX5 64 1 4 := ⟨_, _, _, rfl, by decide, wi_1, px_mem2 83 (by decide +kernel) (by decide +kernel)⟩
theorem fp_X5_64 : px_pw RX5 64 1 4 (px_kd 1) := by
  obtain ⟨C, T, N, h1, h2, h3, h4⟩ := fl_X5_64
  cases h1
  exact ⟨_, _, _, tyX1, rfl, h2, h3, h4, tyX1_ok, nmX1, rfl, rfl⟩
set_option maxRecDepth 100000 in
theorem fl_X5_75 : px_fw RX5 75 7 0 := ⟨_, _, _, rfl, by decide, wi_7, px_mem1 72 (by decide +kernel) (by decide +kernel)⟩
theorem fp_X5_75 : px_pw RX5 75 7 0 (px_kd 1) := by
  obtain ⟨C, T, N, h1, h2, h3, h4⟩ := fl_X5_75
  cases h1
  exact ⟨_, _, _, tyX7, rfl, h2, h3, h4, tyX7_ok, nmX7, rfl, rfl⟩
def ft_X5 : px_FT := [(11, 5, 1, 0), (15, 5, 3, 0), (18, 5, 4, 0), (21, 5, 5, 0), (27, 5, 6, 0), (31, 5, 7, 0), (35, 5, 0, 1), (43, 5, 2, 1), (46, 4, 0, 3), (52, 7, 1, 1), (57, 1, 0, 1), (64, 1, 4, 1), (75, 7, 0, 1)]
theorem ft_X5_ok : px_FTok RX5 ft_X5 := List.forall_mem_cons.mpr ⟨⟨fl_X5_11, fun h => absurd rfl h⟩, List.forall_mem_cons.mpr ⟨⟨fl_X5_15, fun h => absurd rfl h⟩, List.forall_mem_cons.mpr ⟨⟨fl_X5_18, fun h => absurd rfl h⟩, List.forall_mem_cons.mpr ⟨⟨fl_X5_21, fun h => absurd rfl h⟩, List.forall_mem_cons.mpr ⟨⟨fl_X5_27, fun h => absurd rfl h⟩, List.forall_mem_cons.mpr ⟨⟨fl_X5_31, fun h => absurd rfl h⟩, List.forall_mem_cons.mpr ⟨⟨fl_X5_35, fun _ => fp_X5_35⟩, List.forall_mem_cons.mpr ⟨⟨fl_X5_43, fun _ => fp_X5_43⟩, List.forall_mem_cons.mpr ⟨⟨fl_X5_46, fun _ => fp_X5_46⟩, List.forall_mem_cons.mpr ⟨⟨fl_X5_52, fun _ => fp_X5_52⟩, List.forall_mem_cons.mpr ⟨⟨fl_X5_57, fun _ => fp_X5_57⟩, List.forall_mem_cons.mpr ⟨⟨fl_X5_64, fun _ => fp_X5_64⟩, List.forall_mem_cons.mpr ⟨⟨fl_X5_75, fun _ => fp_X5_75⟩, fun _ h => absurd h List.not_mem_nil⟩⟩⟩⟩⟩⟩⟩⟩⟩⟩⟩⟩⟩
set_option maxRecDepth 100000 in
theorem fl_X6_17 : px_fw RX6 17 6 0 := ⟨_, _, _, rfl, by decide, wi_6, px_mem2 133 (by decide +kernel) (by decide +kernel)⟩
set_option maxRecDepth 100000 in
theorem fl_X6_27 : px_fw RX6 27 1 0 := ⟨_, _, _, rfl, by decide, wi_1, px_mem2 63 (by decide +kernel) (by decide +kernel)⟩
theorem fp_X6_27 : px_pw RX6 27 1 0 (px_kd 1) := by
  obtain ⟨C, T, N, h1, h2, h3, h4⟩ := fl_X6_27
  cases h1
  exact ⟨_, _, _, tyX1, rfl, h2, h3, h4, tyX1_ok, nmX1, rfl, rfl⟩
set_option maxRecDepth 100000 in
theorem fl_X6_31 : px_fw RX6 31 1 1 := ⟨_, _, _, rfl, by decide, wi_1, px_mem2 70 (by decide +kernel) (by decide +kernel)⟩
theorem fp_X6_31 : px_pw RX6 31 1 1 (px_kd 1) := by
  obtain ⟨C, T, N, h1, h2, h3, h4⟩ := fl_X6_31
  cases h1
  exact ⟨_, _, _, tyX1, rfl, h2, h3, h4, tyX1_ok, nmX1, rfl, rfl⟩
set_option maxRecDepth 100000 in
theorem fl_X6_34 : px_fw RX6 34 1 2 := ⟨_, _, _, rfl, by decide, wi_1, px_mem2 73 (by decide +kernel) (by decide +kernel)⟩
theorem fp_X6_34 : px_pw RX6 34 1 2 (px_kd 1) := by
  obtain ⟨C, T, N, h1, h2, h3, h4⟩ := fl_X6_34
  cases h1
  exact ⟨_, _, _, tyX1, rfl, h2, h3, h4, tyX1_ok, nmX1, rfl, rfl⟩
set_option maxRecDepth 100000 in
theorem fl_X6_37 : px_fw RX6 37 1 3 := ⟨_, _, _, rfl, by decide, wi_1, px_mem2 77 (by decide +kernel) (by decide +kernel)⟩
theorem fp_X6_37 : px_pw RX6 37 1 3 (px_kd 1) := by
  obtain ⟨C, T, N, h1, h2, h3, h4⟩ := fl_X6_37
  cases h1
  exact ⟨_, _, _, tyX1, rfl, h2, h3, h4, tyX1_ok, nmX1, rfl, rfl⟩
set_option maxRecDepth 100000 in
theorem fl_X6_40 : px_fw RX6 40 1 4 := ⟨_, _, _, rfl, by decide, wi_1, px_mem2 82 (by decide +kernel) (by decide +kernel)⟩
theorem fp_X6_40 : px_pw RX6 40 1 4 (px_kd 1) := by
  obtain ⟨C, T, N, h1, h2, h3, h4⟩ := fl_X6_40
  cases h1
  exact ⟨_, _, _, tyX1, rfl, h2, h3, h4, tyX1_ok, nmX1, rfl, rfl⟩
set_option maxRecDepth 100000 in
theorem fl_X6_43 : px_fw RX6 43 1 5 := ⟨_, _, _, rfl, by decide, wi_1, px_mem2 88 (by decide +kernel) (by decide +kernel)⟩
set_option maxRecDepth 100000 in
theorem fl_X6_52 : px_fw RX6 52 1 6 := ⟨_, _, _, rfl, by decide, wi_1, px_mem2 92 (by decide +kernel) (by decide +kernel)⟩
set_option maxRecDepth 100000 in
theorem fl_X6_55 : px_fw RX6 55 1 7 := ⟨_, _, _, rfl, by decide, wi_1, px_mem2 98 (by decide +kernel) (by decide +kernel)⟩
set_option maxRecDepth 100000 in
theorem fl_X6_58 : px_fw RX6 58 1 8 := ⟨_, _, _, rfl, by decide, wi_1, px_mem2 102 (by decide +kernel) (by decide +kernel)⟩
def ft_X6 : px_FT := [(17, 6, 0, 0), (27, 1, 0, 1), (31, 1, 1, 1), (34, 1, 2, 1), (37, 1, 3, 1), (40, 1, 4, 1), (43, 1, 5, 0), (52, 1, 6, 0), (55, 1, 7, 0), (58, 1, 8, 0)]
theorem ft_X6_ok : px_FTok RX6 ft_X6 := List.forall_mem_cons.mpr ⟨⟨fl_X6_17, fun h => absurd rfl h⟩, List.forall_mem_cons.mpr ⟨⟨fl_X6_27, fun _ => fp_X6_27⟩, List.forall_mem_cons.mpr ⟨⟨fl_X6_31, fun _ => fp_X6_31⟩, List.forall_mem_cons.mpr ⟨⟨fl_X6_34, fun _ => fp_X6_34⟩, List.forall_mem_cons.mpr ⟨⟨fl_X6_37, fun _ => fp_X6_37⟩, List.forall_mem_cons.mpr ⟨⟨fl_X6_40, fun _ => fp_X6_40⟩, List.forall_mem_cons.mpr ⟨⟨fl_X6_43, fun h => absurd rfl h⟩, List.forall_mem_cons.mpr ⟨⟨fl_X6_52, fun h => absurd rfl h⟩, List.forall_mem_cons.mpr ⟨⟨fl_X6_55, fun h => absurd rfl h⟩, List.forall_mem_cons.mpr ⟨⟨fl_X6_58, fun h => absurd rfl h⟩, fun _ h => absurd h List.not_mem_nil⟩⟩⟩⟩⟩⟩⟩⟩⟩⟩
set_option maxRecDepth 100000 in
theorem fl_X7_9 : px_fw RX7 9 7 7 := ⟨_, _, _, rfl, by decide, wi_7, px_mem1 101 (by decide +kernel) (by decide +kernel)⟩
set_option maxRecDepth 100000 in
theorem fl_X7_15 : px_fw RX7 15 7 8 := ⟨_, _, _, rfl, by decide, wi_7, px_mem1 103 (by decide +kernel) (by decide +kernel)⟩
set_option maxRecDepth 100000 in
theorem fl_X7_19 : px_fw RX7 19 7 9 := ⟨_, _, _, rfl, by decide, wi_7, px_mem1 106 (by decide +kernel) (by decide +kernel)⟩
set_option maxRecDepth 100000 in
theorem fl_X7_22 : px_fw RX7 22 7 10 := ⟨_, _, _, rfl, by decide, wi_7, px_mem1 110 (by decide +kernel) (by decide +kernel)⟩
set_option maxRecDepth 100000 in
theorem fl_X7_25 : px_fw RX7 25 7 11 := ⟨_, _, _, rfl, by decide, wi_7, px_mem1 114 (by decide +kernel) (by decide +kernel)⟩
set_option maxRecDepth 100000 in
theorem fl_X7_28 : px_fw RX7 28 7 12 := ⟨_, _, _, rfl, by decide, wi_7, px_mem1 117 (by decide +kernel) (by decide +kernel)⟩
set_option maxRecDepth 100000 in
theorem fl_X7_31 : px_fw RX7 31 7 13 := ⟨_, _, _, rfl, by decide, wi_7, px_mem1 120 (by decide +kernel) (by decide +kernel)⟩
set_option maxRecDepth 100000 in
theorem fl_X7_34 : px_fw RX7 34 7 14 := ⟨_, _, _, rfl, by decide, wi_7, px_mem1 122 (by decide +kernel) (by decide +kernel)⟩
set_option maxRecDepth 100000 in
theorem fl_X7_37 : px_fw RX7 37 7 15 := ⟨_, _, _, rfl, by decide, wi_7, px_mem1 126 (by decide +kernel) (by decide +kernel)⟩
set_option maxRecDepth 100000 in
theorem fl_X7_40 : px_fw RX7 40 7 16 := ⟨_, _, _, rfl, by decide, wi_7, px_mem1 130 (by decide +kernel) (by decide +kernel)⟩
set_option maxRecDepth 100000 in
theorem fl_X7_46 : px_fw RX7 46 7 17 := ⟨_, _, _, rfl, by decide, wi_7, px_mem1 134 (by decide +kernel) (by decide +kernel)⟩
set_option maxRecDepth 100000 in
theorem fl_X7_53 : px_fw RX7 53 7 0 := ⟨_, _, _, rfl, by decide, wi_7, px_mem1 70 (by decide +kernel) (by decide +kernel)⟩
theorem fp_X7_53 : px_pw RX7 53 7 0 (px_kd 1) := by
  obtain ⟨C, T, N, h1, h2, h3, h4⟩ := fl_X7_53
  cases h1
  exact ⟨_, _, _, tyX7, rfl, h2, h3, h4, tyX7_ok, nmX7, rfl, rfl⟩
set_option maxRecDepth 100000 in
theorem fl_X7_57 : px_fw RX7 57 7 1 := ⟨_, _, _, rfl, by decide, wi_7, px_mem1 76 (by decide +kernel) (by decide +kernel)⟩
theorem fp_X7_57 : px_pw RX7 57 7 1 (px_kd 1) := by
  obtain ⟨C, T, N, h1, h2, h3, h4⟩ := fl_X7_57
  cases h1
  exact ⟨_, _, _, tyX7, rfl, h2, h3, h4, tyX7_ok, nmX7, rfl, rfl⟩
set_option maxRecDepth 100000 in
theorem fl_X7_60 : px_fw RX7 60 7 2 := ⟨_, _, _, rfl, by decide, wi_7, px_mem1 82 (by decide +kernel) (by decide +kernel)⟩
theorem fp_X7_60 : px_pw RX7 60 7 2 (px_kd 1) := by
  obtain ⟨C, T, N, h1, h2, h3, h4⟩ := fl_X7_60
  cases h1
  exact ⟨_, _, _, tyX7, rfl, h2, h3, h4, tyX7_ok, nmX7, rfl, rfl⟩
set_option maxRecDepth 100000 in
theorem fl_X7_63 : px_fw RX7 63 7 3 := ⟨_, _, _, rfl, by decide, wi_7, px_mem1 87 (by decide +kernel) (by decide +kernel)⟩
theorem fp_X7_63 : px_pw RX7 63 7 3 (px_kd 1) := by
  obtain ⟨C, T, N, h1, h2, h3, h4⟩ := fl_X7_63
  cases h1
  exact ⟨_, _, _, tyX7, rfl, h2, h3, h4, tyX7_ok, nmX7, rfl, rfl⟩
set_option maxRecDepth 100000 in
theorem fl_X7_66 : px_fw RX7 66 7 4 := ⟨_, _, _, rfl, by decide, wi_7, px_mem1 90 (by decide +kernel) (by decide +kernel)⟩
theorem fp_X7_66 : px_pw RX7 66 7 4 (px_kd 1) := by
  obtain ⟨C, T, N, h1, h2, h3, h4⟩ := fl_X7_66
  cases h1
  exact ⟨_, _, _, tyX7, rfl, h2, h3, h4, tyX7_ok, nmX7, rfl, rfl⟩
set_option maxRecDepth 100000 in
theorem fl_X7_69 : px_fw RX7 69 7 5 := ⟨_, _, _, rfl, by decide, wi_7, px_mem1 94 (by decide +kernel) (by decide +kernel)⟩
theorem fp_X7_69 : px_pw RX7 69 7 5 (px_kd 1) := by
  obtain ⟨C, T, N, h1, h2, h3, h4⟩ := fl_X7_69
  cases h1
  exact ⟨_, _, _, tyX7, rfl, h2, h3, h4, tyX7_ok, nmX7, rfl, rfl⟩
set_option maxRecDepth 100000 in
theorem fl_X7_72 : px_fw RX7 72 7 6 := ⟨_, _, _, rfl, by decide, wi_7, px_mem1 97 (by decide +kernel) (by decide +kernel)⟩
theorem fp_X7_72 : px_pw RX7 72 7 6 (px_kd 1) := by
  obtain ⟨C, T, N, h1, h2, h3, h4⟩ := fl_X7_72
  cases h1
  exact ⟨_, _, _, tyX7, rfl, h2, h3, h4, tyX7_ok, nmX7, rfl, rfl⟩
def ft_X7 : px_FT := [(9, 7, 7, 0), (15, 7, 8, 0), (19, 7, 9, 0), (22, 7, 10, 0), (25, 7, 11, 0), (28, 7, 12, 0), (31, 7, 13, 0), (34, 7, 14, 0), (37, 7, 15, 0), (40, 7, 16, 0), (46, 7, 17, 0), (53, 7, 0, 1), (57, 7, 1, 1), (60, 7, 2, 1), (63, 7, 3, 1), (66, 7, 4, 1), (69, 7, 5, 1), (72, 7, 6, 1)]
theorem ft_X7_ok : px_FTok RX7 ft_X7 := List.forall_mem_cons.mpr ⟨⟨fl_X7_9, fun h => absurd rfl h⟩, List.forall_mem_cons.mpr ⟨⟨fl_X7_15, fun h => absurd rfl h⟩, List.forall_mem_cons.mpr ⟨⟨fl_X7_19, fun h => absurd rfl h⟩, List.forall_mem_cons.mpr ⟨⟨fl_X7_22, fun h => absurd rfl h⟩, List.forall_mem_cons.mpr ⟨⟨fl_X7_25, fun h => absurd rfl h⟩, List.forall_mem_cons.mpr ⟨⟨fl_X7_28, fun h => absurd rfl h⟩, List.forall_mem_cons.mpr ⟨⟨fl_X7_31, fun h => absurd rfl h⟩, List.forall_mem_cons.mpr ⟨⟨fl_X7_34, fun h => absurd rfl h⟩, List.forall_mem_cons.mpr ⟨⟨fl_X7_37, fun h => absurd rfl h⟩, List.forall_mem_cons.mpr ⟨⟨fl_X7_40, fun h => absurd rfl h⟩, List.forall_mem_cons.mpr ⟨⟨fl_X7_46, fun h => absurd rfl h⟩, List.forall_mem_cons.mpr ⟨⟨fl_X7_53, fun _ => fp_X7_53⟩, List.forall_mem_cons.mpr ⟨⟨fl_X7_57, fun _ => fp_X7_57⟩, List.forall_mem_cons.mpr ⟨⟨fl_X7_60, fun _ => fp_X7_60⟩, List.forall_mem_cons.mpr ⟨⟨fl_X7_63, fun _ => fp_X7_63⟩, List.forall_mem_cons.mpr ⟨⟨fl_X7_66, fun _ => fp_X7_66⟩, List.forall_mem_cons.mpr ⟨⟨fl_X7_69, fun _ => fp_X7_69⟩, List.forall_mem_cons.mpr ⟨⟨fl_X7_72, fun _ => fp_X7_72⟩, fun _ h => absurd h List.not_mem_nil⟩⟩⟩⟩⟩⟩⟩⟩⟩⟩⟩⟩⟩⟩⟩⟩⟩⟩
set_option maxRecDepth 100000 in
theorem fl_X8_10 : px_fw RX8 10 8 0 := ⟨_, _, _, rfl, by decide, wi_8, px_mem3 4 (by decide +kernel) (by decide +kernel)⟩
theorem fp_X8_10 : px_pw RX8 10 8 0 (px_kd 3) := by
  obtain ⟨C, T, N, h1, h2, h3, h4⟩ := fl_X8_10
  cases h1
  exact ⟨_, _, _, tyX8, rfl, h2, h3, h4, tyX8_ok, nmX8, rfl, rfl⟩
set_option maxRecDepth 100000 in
theorem fl_X8_16 : px_fw RX8 16 8 1 := ⟨_, _, _, rfl, by decide, wi_8, px_mem3 5 (by decide +kernel) (by decide +kernel)⟩
theorem fp_X8_16 : px_pw RX8 16 8 1 (px_kd 3) := by
  obtain ⟨C, T, N, h1, h2, h3, h4⟩ := fl_X8_16
  cases h1
  exact ⟨_, _, _, tyX8, rfl, h2, h3, h4, tyX8_ok, nmX8, rfl, rfl⟩
set_option maxRecDepth 100000 in
theorem fl_X8_22 : px_fw RX8 22 8 2 := ⟨_, _, _, rfl, by decide, wi_8, px_mem3 6 (by decide +kernel) (by decide +kernel)⟩
set_option maxRecDepth 100000 in
theorem fl_X8_31 : px_fw RX8 31 8 3 := ⟨_, _, _, rfl, by decide, wi_8, px_mem3 7 (by decide +kernel) (by decide +kernel)⟩
set_option maxRecDepth 100000 in
theorem fl_X8_40 : px_fw RX8 40 8 4 := ⟨_, _, _, rfl, by decide, wi_8, px_mem3 8 (by decide +kernel) (by decide +kernel)⟩
set_option maxRecDepth 100000 in
theorem fl_X8_47 : px_fw RX8 47 8 5 := ⟨_, _, _, rfl, by decide, wi_8, px_mem3 9 (by decide +kernel) (by decide +kernel)⟩
set_option maxRecDepth 100000 in
theorem fl_X8_54 : px_fw RX8 54 8 6 := ⟨_, _, _, rfl, by decide, wi_8, px_mem3 10 (by decide +kernel) (by decide +kernel)⟩
set_option maxRecDepth 100000 in
theorem fl_X8_58 : px_fw RX8 58 8 7 := ⟨_, _, _, rfl, by decide, wi_8, px_mem3 11 (by decide +kernel) (by decide +kernel)⟩
set_option maxRecDepth 100000 in
theorem fl_X8_66 : px_fw RX8 66 8 8 := ⟨_, _, _, rfl, by decide, wi_8, px_mem3 12 (by decide +kernel) (by decide +kernel)⟩
set_option maxRecDepth 100000 in
theorem fl_X8_70 : px_fw RX8 70 8 9 := ⟨_, _, _, rfl, by decide, wi_8, px_mem3 13 (by decide +kernel) (by decide +kernel)⟩
set_option maxRecDepth 100000 in
theorem fl_X8_83 : px_fw RX8 83 3 0 := ⟨_, _, _, rfl, by decide, wi_3, px_mem1 232 (by decide +kernel) (by decide +kernel)⟩
theorem fp_X8_83 : px_pw RX8 83 3 0 (px_kd 1) := by
  obtain ⟨C, T, N, h1, h2, h3, h4⟩ := fl_X8_83
  cases h1
  exact ⟨_, _, _, tyX3, rfl, h2, h3, h4, tyX3_ok, nmX3, rfl, rfl⟩
set_option maxRecDepth 100000 in
theorem fl_X8_91 : px_fw RX8 91 3 1 := ⟨_, _, _, rfl, by decide, wi_3, px_mem1 235 (by decide +kernel) (by decide +kernel)⟩
theorem fp_X8_91 : px_pw RX8 91 3 1 (px_kd 1) := by
  obtain ⟨C, T, N, h1, h2, h3, h4⟩ := fl_X8_91
  cases h1
  exact ⟨_, _, _, tyX3, rfl, h2, h3, h4, tyX3_ok, nmX3, rfl, rfl⟩
set_option maxRecDepth 100000 in
theorem fl_X8_98 : px_fw RX8 98 1 5 := ⟨_, _, _, rfl, by decide, wi_1, px_mem2 89 (by decide +kernel) (by decide +kernel)⟩
set_option maxRecDepth 100000 in
theorem fl_X8_102 : px_fw RX8 102 7 9 := ⟨_, _, _, rfl, by decide, wi_7, px_mem1 107 (by decide +kernel) (by decide +kernel)⟩
set_option maxRecDepth 100000 in
theorem fl_X8_105 : px_fw RX8 105 7 10 := ⟨_, _, _, rfl, by decide, wi_7, px_mem1 111 (by decide +kernel) (by decide +kernel)⟩
set_option maxRecDepth 100000 in
theorem fl_X8_108 : px_fw RX8 108 1 6 := ⟨_, _, _, rfl, by decide, wi_1, px_mem2 95 (by decide +kernel) (by decide +kernel)⟩
set_option maxRecDepth 100000 in
theorem fl_X8_111 : px_fw RX8 111 1 4 := ⟨_, _, _, rfl, by decide, wi_1, px_mem2 85 (by decide +kernel) (by decide +kernel)⟩
theorem fp_X8_111 : px_pw RX8 111 1 4 (px_kd 1) := by
  obtain ⟨C, T, N, h1, h2, h3, h4⟩ := fl_X8_111
  cases h1
  exact ⟨_, _, _, tyX1, rfl, h2, h3, h4, tyX1_ok, nmX1, rfl, rfl⟩
set_option maxRecDepth 100000 in
theorem fl_X8_121 : px_fw RX8 121 7 14 := ⟨_, _, _, rfl, by decide, wi_7, px_mem1 124 (by decide +kernel) (by decide +kernel)⟩
set_option maxRecDepth 100000 in
theorem fl_X8_124 : px_fw RX8 124 7 15 := ⟨_, _, _, rfl, by decide, wi_7, px_mem1 128 (by decide +kernel) (by decide +kernel)⟩
set_option maxRecDepth 100000 in
theorem fl_X8_127 : px_fw RX8 127 7 16 := ⟨_, _, _, rfl, by decide, wi_7, px_mem1 131 (by decide +kernel) (by decide +kernel)⟩
set_option maxRecDepth 100000 in
theorem fl_X8_130 : px_fw RX8 130 1 7 := ⟨_, _, _, rfl, by decide, wi_1, px_mem2 99 (by decide +kernel) (by decide +kernel)⟩
set_option maxRecDepth 100000 in
theorem fl_X8_133 : px_fw RX8 133 1 8 := ⟨_, _, _, rfl, by decide, wi_1, px_mem2 103 (by decide +kernel) (by decide +kernel)⟩
set_option maxRecDepth 100000 in
theorem fl_X8_167 : px_fw RX8 167 1 0 := ⟨_, _, _, rfl, by decide, wi_1, px_mem2 67 (by decide +kernel) (by decide +kernel)⟩
theorem fp_X8_167 : px_pw RX8 167 1 0 (px_kd 1) := by
  obtain ⟨C, T, N, h1, h2, h3, h4⟩ := fl_X8_167
  cases h1
  exact ⟨_, _, _, tyX1, rfl, h2, h3, h4, tyX1_ok, nmX1, rfl, rfl⟩
set_option maxRecDepth 100000 in
theorem fl_X8_170 : px_fw RX8 170 7 4 := ⟨_, _, _, rfl, by decide, wi_7, px_mem1 92 (by decide +kernel) (by decide +kernel)⟩
theorem fp_X8_170 : px_pw RX8 170 7 4 (px_kd 1) := by
  obtain ⟨C, T, N, h1, h2, h3, h4⟩ := fl_X8_170
  cases h1
  exact ⟨_, _, _, tyX7, rfl, h2, h3, h4, tyX7_ok, nmX7, rfl, rfl⟩
set_option maxRecDepth 100000 in
theorem fl_X8_179 : px_fw RX8 179 7 6 := ⟨_, _, _, rfl, by decide, wi_7, px_mem1 99 (by decide +kernel) (by decide +kernel)⟩
theorem fp_X8_179 : px_pw RX8 179 7 6 (px_kd 1) := by
  obtain ⟨C, T, N, h1, h2, h3, h4⟩ := fl_X8_179
  cases h1
  exact ⟨_, _, _, tyX7, rfl, h2, h3, h4, tyX7_ok, nmX7, rfl, rfl⟩
set_option maxRecDepth 100000 in
theorem fl_X8_189 : px_fw RX8 189 1 1 := ⟨_, _, _, rfl, by decide, wi_1, px_mem2 71 (by decide +kernel) (by decide +kernel)⟩
theorem fp_X8_189 : px_pw RX8 189 1 1 (px_kd 1) := by
  obtain ⟨C, T, N, h1, h2, h3, h4⟩ := fl_X8_189
  cases h1
  exact ⟨_, _, _, tyX1, rfl, h2, h3, h4, tyX1_ok, nmX1, rfl, rfl⟩
set_option maxRecDepth 100000 in
theorem fl_X8_192 : px_fw RX8 192 8 10 := ⟨_, _, _, rfl, by decide, wi_8, px_mem3 14 (by decide +kernel) (by decide +kernel)⟩
theorem fp_X8_192 : px_pw RX8 192 8 10 (px_kd 1) := by
  obtain ⟨C, T, N, h1, h2, h3, h4⟩ := fl_X8_192
  cases h1
  exact ⟨_, _, _, tyX8, rfl, h2, h3, h4, tyX8_ok, nmX8, rfl, rfl⟩
set_option maxRecDepth 100000 in
theorem fl_X8_195 : px_fw RX8 195 8 11 := ⟨_, _, _, rfl, by decide, wi_8, px_mem3 15 (by decide +kernel) (by decide +kernel)⟩
theorem fp_X8_195 : px_pw RX8 195 8 11 (px_kd 1) := by
  obtain ⟨C, T, N, h1, h2, h3, h4⟩ := fl_X8_195
  cases h1
  exact ⟨_, _, _, tyX8, rfl, h2, h3, h4, tyX8_ok, nmX8, rfl, rfl⟩
set_option maxRecDepth 100000 in
theorem fl_X8_211 : px_fw RX8 211 1 3 := ⟨_, _, _, rfl, by decide, wi_1, px_mem2 79 (by decide +kernel) (by decide +kernel)⟩
theorem fp_X8_211 : px_pw RX8 211 1 3 (px_kd 1) := by
  obtain ⟨C, T, N, h1, h2, h3, h4⟩ := fl_X8_211
  cases h1
  exact ⟨_, _, _, tyX1, rfl, h2, h3, h4, tyX1_ok, nmX1, rfl, rfl⟩
set_option maxRecDepth 100000 in
theorem fl_X8_221 : px_fw RX8 221 2 4 := ⟨_, _, _, rfl, by decide, wi_2, px_mem2 146 (by decide +kernel) (by decide +kernel)⟩
set_option maxRecDepth 100000 in
theorem fl_X8_228 : px_fw RX8 228 2 1 := ⟨_, _, _, rfl, by decide, wi_2, px_mem2 140 (by decide +kernel) (by decide +kernel)⟩
theorem fp_X8_228 : px_pw RX8 228 2 1 (px_kd 1) := by
  obtain ⟨C, T, N, h1, h2, h3, h4⟩ := fl_X8_228
  cases h1
  exact ⟨_, _, _, tyX2, rfl, h2, h3, h4, tyX2_ok, nmX2, rfl, rfl⟩
set_option maxRecDepth 100000 in
theorem fl_X8_231 : px_fw RX8 231 2 2 := ⟨_, _, _, rfl, by decide, wi_2, px_mem2 142 (by decide +kernel) (by decide +kernel)⟩
theorem fp_X8_231 : px_pw RX8 231 2 2 (px_kd 1) := by
  obtain ⟨C, T, N, h1, h2, h3, h4⟩ := fl_X8_231
  cases h1
  exact ⟨_, _, _, tyX2, rfl, h2, h3, h4, tyX2_ok, nmX2, rfl, rfl⟩
set_option maxRecDepth 100000 in
theorem fl_X8_234 : px_fw RX8 234 2 0 := ⟨_, _, _, rfl, by decide, wi_2, px_mem2 138 (by decide +kernel) (by decide +kernel)⟩
theorem fp_X8_234 : px_pw RX8 234 2 0 (px_kd 1) := by
  obtain ⟨C, T, N, h1, h2, h3, h4⟩ := fl_X8_234
  cases h1
  exact ⟨_, _, _, tyX2, rfl, h2, h3, h4, tyX2_ok, nmX2, rfl, rfl⟩
set_option maxRecDepth 100000 in
theorem fl_X8_241 : px_fw RX8 241 2 3 := ⟨_, _, _, rfl, by decide, wi_2, px_mem2 144 (by decide +kernel) (by decide +kernel)⟩
theorem fp_X8_241 : px_pw RX8 241 2 3 (px_kd 1) := by
  obtain ⟨C, T, N, h1, h2, h3, h4⟩ := fl_X8_241
  cases h1
  exact ⟨_, _, _, tyX2, rfl, h2, h3, h4, tyX2_ok, nmX2, rfl, rfl⟩
set_option maxRecDepth 100000 in
theorem fl_X8_247 : px_fw RX8 247 2 5 := ⟨_, _, _, rfl, by decide, wi_2, px_mem2 148 (by decide +kernel) (by decide +kernel)⟩
set_option maxRecDepth 100000 in
theorem fl_X8_266 : px_fw RX8 266 5 0 := ⟨_, _, _, rfl, by decide, wi_5, px_mem2 198 (by decide +kernel) (by decide +kernel)⟩
theorem fp_X8_266 : px_pw RX8 266 5 0 (px_kd 1) := by
  obtain ⟨C, T, N, h1, h2, h3, h4⟩ := fl_X8_266
  cases h1
  exact ⟨_, _, _, tyX5, rfl, h2, h3, h4, tyX5_ok, nmX5, rfl, rfl⟩
set_option maxRecDepth 100000 in
theorem fl_X8_272 : px_fw RX8 272 5 1 := ⟨_, _, _, rfl, by decide, wi_5, px_mem2 200 (by decide +kernel) (by decide +kernel)⟩
set_option maxRecDepth 100000 in
theorem fl_X8_282 : px_fw RX8 282 8 12 := ⟨_, _, _, rfl, by decide, wi_8, px_mem3 16 (by decide +kernel) (by decide +kernel)⟩
theorem fp_X8_282 : px_pw RX8 282 8 12 (px_kd 1) := by
  obtain ⟨C, T, N, h1, h2, h3, h4⟩ := fl_X8_282
  cases h1
  exact ⟨_, _, _, tyX8, rfl, h2, h3, h4, tyX8_ok, nmX8, rfl, rfl⟩
set_option maxRecDepth 100000 in
theorem fl_X8_285 : px_fw RX8 285 7 0 := ⟨_, _, _, rfl, by decide, wi_7, px_mem1 75 (by decide +kernel) (by decide +kernel)⟩
theorem fp_X8_285 : px_pw RX8 285 7 0 (px_kd 1) := by
  obtain ⟨C, T, N, h1, h2, h3, h4⟩ := fl_X8_285
  cases h1
  exact ⟨_, _, _, tyX7, rfl, h2, h3, h4, tyX7_ok, nmX7, rfl, rfl⟩
set_option maxRecDepth 100000 in
theorem fl_X8_288 : px_fw RX8 288 7 1 := ⟨_, _, _, rfl, by decide, wi_7, px_mem1 81 (by decide +kernel) (by decide +kernel)⟩
theorem fp_X8_288 : px_pw RX8 288 7 1 (px_kd 1) := by
  obtain ⟨C, T, N, h1, h2, h3, h4⟩ := fl_X8_288
  cases h1
  exact ⟨_, _, _, tyX7, rfl, h2, h3, h4, tyX7_ok, nmX7, rfl, rfl⟩
set_option maxRecDepth 100000 in
theorem fl_X8_291 : px_fw RX8 291 7 2 := ⟨_, _, _, rfl, by decide, wi_7, px_mem1 85 (by decide +kernel) (by decide +kernel)⟩
theorem fp_X8_291 : px_pw RX8 291 7 2 (px_kd 1) := by
  obtain ⟨C, T, N, h1, h2, h3, h4⟩ := fl_X8_291
  cases h1
  exact ⟨_, _, _, tyX7, rfl, h2, h3, h4, tyX7_ok, nmX7, rfl, rfl⟩
set_option maxRecDepth 100000 in
theorem fl_X8_294 : px_fw RX8 294 7 3 := ⟨_, _, _, rfl, by decide, wi_7, px_mem1 89 (by decide +kernel) (by decide +kernel)⟩
theorem fp_X8_294 : px_pw RX8 294 7 3 (px_kd 1) := by
  obtain ⟨C, T, N, h1, h2, h3, h4⟩ := fl_X8_294
  cases h1
  exact ⟨_, _, _, tyX7, rfl, h2, h3, h4, tyX7_ok, nmX7, rfl, rfl⟩
set_option maxRecDepth 100000 in
theorem fl_X8_297 : px_fw RX8 297 1 2 := ⟨_, _, _, rfl, by decide, wi_1, px_mem2 75 (by decide +kernel) (by decide +kernel)⟩
theorem fp_X8_297 : px_pw RX8 297 1 2 (px_kd 1) := by
  obtain ⟨C, T, N, h1, h2, h3, h4⟩ := fl_X8_297
  cases h1
  exact ⟨_, _, _, tyX1, rfl, h2, h3, h4, tyX1_ok, nmX1, rfl, rfl⟩
set_option maxRecDepth 100000 in
theorem fl_X8_315 : px_fw RX8 315 4 0 := ⟨_, _, _, rfl, by decide, wi_4, px_mem2 44 (by decide +kernel) (by decide +kernel)⟩
theorem fp_X8_315 : px_pw RX8 315 4 0 (px_kd 3) := by
  obtain ⟨C, T, N, h1, h2, h3, h4⟩ := fl_X8_315
  cases h1
  exact ⟨_, _, _, tyX4, rfl, h2, h3, h4, tyX4_ok, nmX4, rfl, rfl⟩
def ft_X8 : px_FT := [(10, 8, 0, 3), (16, 8, 1, 3), (22, 8, 2, 0), (31, 8, 3, 0), (40, 8, 4, 0), (47, 8, 5, 0), (54, 8, 6, 0), (58, 8, 7, 0), (66, 8, 8, 0), (70, 8, 9, 0), (83, 3, 0, 1), (91, 3, 1, 1), (98, 1, 5, 0), (102, 7, 9, 0), (105, 7, 10, 0), (108, 1, 6, 0), (111, 1, 4, 1), (121, 7, 14, 0), (124, 7, 15, 0), (127, 7, 16, 0), (130, 1, 7, 0), (133, 1, 8, 0), (167, 1, 0, 1), (170, 7, 4, 1), (179, 7, 6, 1), (189, 1, 1, 1), (192, 8, 10, 1), (195, 8, 11, 1), (211, 1, 3, 1), (221, 2, 4, 0), (228, 2, 1, 1), (231, 2, 2, 1), (234, 2, 0, 1), (241, 2, 3, 1), (247, 2, 5, 0), (266, 5, 0, 1), (272, 5, 1, 0), (282, 8, 12, 1), (285, 7, 0, 1), (288, 7, 1, 1), (291, 7, 2, 1), (294, 7, 3, 1), (297, 1, 2, 1), (315, 4, 0, 3)]
theorem ft_X8_ok : px_FTok RX8 ft_X8 := List.forall_mem_cons.mpr ⟨⟨fl_X8_10, fun _ => fp_X8_10⟩, List.forall_mem_cons.mpr ⟨⟨fl_X8_16, fun _ => fp_X8_16⟩, List.forall_mem_cons.mpr ⟨⟨fl_X8_22, fun h => absurd rfl h⟩, List.forall_mem_cons.mpr ⟨⟨fl_X8_31, fun h => absurd rfl h⟩, List.forall_mem_cons.mpr ⟨⟨fl_X8_40, fun h => absurd rfl h⟩, List.forall_mem_cons.mpr ⟨⟨fl_X8_47, fun h => absurd rfl h⟩, List.forall_mem_cons.mpr ⟨⟨fl_X8_54, fun h => absurd rfl h⟩, List.forall_mem_cons.mpr ⟨⟨fl_X8_58, fun h => absurd rfl h⟩, List.forall_mem_cons.mpr ⟨⟨fl_X8_66, fun h => absurd rfl h⟩, List.forall_mem_cons.mpr ⟨⟨fl_X8_70, fun h => absurd rfl h⟩, List.forall_mem_cons.mpr ⟨⟨fl_X8_83, fun _ => fp_X8_83⟩, List.forall_mem_cons.mpr ⟨⟨fl_X8_91, fun _ => fp_X8_91⟩, List.forall_mem_cons.mpr ⟨⟨fl_X8_98, fun h => absurd rfl h⟩, List.forall_mem_cons.mpr ⟨⟨fl_X8_102, fun h => absurd rfl h⟩, List.forall_mem_cons.mpr ⟨⟨fl_X8_105, fun h => absurd rfl h⟩, List.forall_mem_cons.mpr ⟨⟨fl_X8_108, fun h => absurd rfl h⟩, List.forall_mem_cons.mpr ⟨⟨fl_X8_111, fun _ => fp_X8_111⟩, List.forall_mem_cons.mpr ⟨⟨fl_X8_121, fun h => absurd rfl h⟩, List.forall_mem_cons.mpr ⟨⟨fl_X8_124, fun h => absurd rfl h⟩, List.forall_mem_cons.mpr ⟨⟨fl_X8_127, fun h => absurd rfl h⟩, List.forall_mem_cons.mpr ⟨⟨fl_X8_130, fun h => absurd rfl h⟩, List.forall_mem_cons.mpr ⟨⟨fl_X8_133, fun h => absurd rfl h⟩, List.forall_mem_cons.mpr ⟨⟨fl_X8_167, fun _ => fp_X8_167⟩, List.forall_mem_cons.mpr ⟨⟨fl_X8_170, fun _ => fp_X8_170⟩, List.forall_mem_cons.mpr ⟨⟨fl_X8_179, fun _ => fp_X8_179⟩, List.forall_mem_cons.mpr ⟨⟨fl_X8_189, fun _ => fp_X8_189⟩, List.forall_mem_cons.mpr ⟨⟨fl_X8_192, fun _ => fp_X8_192⟩, List.forall_mem_cons.mpr ⟨⟨fl_X8_195, fun _ => fp_X8_195⟩, List.forall_mem_cons.mpr ⟨⟨fl_X8_211, fun _ => fp_X8_211⟩, List.forall_mem_cons.mpr ⟨⟨fl_X8_221, fun h => absurd rfl h⟩, List.forall_mem_cons.mpr ⟨⟨fl_X8_228, fun _ => fp_X8_228⟩, List.forall_mem_cons.mpr ⟨⟨fl_X8_231, fun _ => fp_X8_231⟩, List.forall_mem_cons.mpr ⟨⟨fl_X8_234, fun _ => fp_X8_234⟩, List.forall_mem_cons.mpr ⟨⟨fl_X8_241, fun _ => fp_X8_241⟩, List.forall_mem_cons.mpr ⟨⟨fl_X8_247, fun h => absurd rfl h⟩, List.forall_mem_cons.mpr ⟨⟨fl_X8_266, fun _ => fp_X8_266⟩, List.forall_mem_cons.mpr ⟨⟨fl_X8_272, fun h => absurd rfl h⟩, List.forall_mem_cons.mpr ⟨⟨fl_X8_282, fun _ => fp_X8_282⟩, List.forall_mem_cons.mpr ⟨⟨fl_X8_285, fun _ => fp_X8_285⟩, List.forall_mem_cons.mpr ⟨⟨fl_X8_288, fun _ => fp_X8_288⟩, List.forall_mem_cons.mpr ⟨⟨fl_X8_291, fun _ => fp_X8_291⟩, List.forall_mem_cons.mpr ⟨⟨fl_X8_294, fun _ => fp_X8_294⟩, List.forall_mem_cons.mpr ⟨⟨fl_X8_297, fun _ => fp_X8_297⟩, List.forall_mem_cons.mpr ⟨⟨fl_X8_315, fun _ => fp_X8_315⟩, fun _ h => absurd h List.not_mem_nil⟩⟩⟩⟩⟩⟩⟩⟩⟩⟩⟩⟩⟩⟩⟩⟩⟩⟩⟩⟩⟩⟩⟩⟩⟩⟩⟩⟩⟩⟩⟩⟩⟩⟩⟩⟩⟩⟩⟩⟩⟩⟩⟩⟩
set_option maxRecDepth 100000 in
theorem fl_X9_13 : px_fw RX9 13 9 1 := ⟨_, _, _, rfl, by decide, wi_9, px_mem5 166 (by decide +kernel) (by decide +kernel)⟩
set_option maxRecDepth 100000 in
theorem fl_X9_17 : px_fw RX9 17 9 3 := ⟨_, _, _, rfl, by decide, wi_9, px_mem5 168 (by decide +kernel) (by decide +kernel)⟩
set_option maxRecDepth 100000 in
theorem fl_X9_20 : px_fw RX9 20 9 5 := ⟨_, _, _, rfl, by decide, wi_9, px_mem5 170 (by decide +kernel) (by decide +kernel)⟩
set_option maxRecDepth 100000 in
theorem fl_X9_24 : px_fw RX9 24 9 6 := ⟨_, _, _, rfl, by decide, wi_9, px_mem5 171 (by decide +kernel) (by decide +kernel)⟩
set_option maxRecDepth 100000 in
theorem fl_X9_27 : px_fw RX9 27 9 7 := ⟨_, _, _, rfl, by decide, wi_9, px_mem5 172 (by decide +kernel) (by decide +kernel)⟩
set_option maxRecDepth 100000 in
theorem fl_X9_30 : px_fw RX9 30 9 8 := ⟨_, _, _, rfl, by decide, wi_9, px_mem5 173 (by decide +kernel) (by decide +kernel)⟩
set_option maxRecDepth 100000 in
theorem fl_X9_34 : px_fw RX9 34 9 9 := ⟨_, _, _, rfl, by decide, wi_9, px_mem5 174 (by decide +kernel) (by decide +kernel)⟩
set_option maxRecDepth 100000 in
theorem fl_X9_37 : px_fw RX9 37 9 17 := ⟨_, _, _, rfl, by decide, wi_9, px_mem5 182 (by decide +kernel) (by decide +kernel)⟩
theorem fp_X9_37 : px_pw RX9 37 9 17 (px_kd 1) := by
  obtain ⟨C, T, N, h1, h2, h3, h4⟩ := fl_X9_37
  cases h1
  exact ⟨_, _, _, tyX9, rfl, h2, h3, h4, tyX9_ok, nmX9, rfl, rfl⟩
set_option maxRecDepth 100000 in
theorem fl_X9_40 : px_fw RX9 40 9 21 := ⟨_, _, _, rfl, by decide, wi_9, px_mem5 186 (by decide +kernel) (by decide +kernel)⟩
set_option maxRecDepth 100000 in
theorem fl_X9_43 : px_fw RX9 43 9 22 := ⟨_, _, _, rfl, by decide, wi_9, px_mem5 187 (by decide +kernel) (by decide +kernel)⟩
set_option maxRecDepth 100000 in
theorem fl_X9_46 : px_fw RX9 46 9 23 := ⟨_, _, _, rfl, by decide, wi_9, px_mem5 188 (by decide +kernel) (by decide +kernel)⟩
set_option maxRecDepth 100000 in
theorem fl_X9_49 : px_fw RX9 49 9 24 := ⟨_, _, _, rfl, by decide, wi_9, px_mem5 189 (by decide +kernel) (by decide +kernel)⟩
set_option maxRecDepth 100000 in
theorem fl_X9_52 : px_fw RX9 52 9 25 := ⟨_, _, _, rfl, by decide, wi_9, px_mem5 190 (by decide +kernel) (by decide +kernel)⟩
set_option maxRecDepth 100000 in
theorem fl_X9_55 : px_fw RX9 55 9 26 := ⟨_, _, _, rfl, by decide, wi_9, px_mem5 191 (by decide +kernel) (by decide +kernel)⟩
set_option maxRecDepth 100000 in
theorem fl_X9_58 : px_fw RX9 58 9 27 := ⟨_, _, _, rfl, by decide, wi_9, px_mem5 192 (by decide +kernel) (by decide +kernel)⟩
set_option maxRecDepth 100000 in
theorem fl_X9_61 : px_fw RX9 61 9 28 := ⟨_, _, _, rfl, by decide, wi_9, px_mem5 193 (by decide +kernel) (by decide +kernel)⟩
set_option maxRecDepth 100000 in
theorem fl_X9_64 : px_fw RX9 64 9 29 := ⟨_, _, _, rfl, by decide, wi_9, px_mem5 194 (by decide +kernel) (by decide +kernel)⟩
set_option maxRecDepth 100000 in
theorem fl_X9_67 : px_fw RX9 67 9 30 := ⟨_, _, _, rfl, by decide, wi_9, px_mem5 195 (by decide +kernel) (by decide +kernel)⟩
set_option maxRecDepth 100000 in
theorem fl_X9_70 : px_fw RX9 70 9 31 := ⟨_, _, _, rfl, by decide, wi_9, px_mem5 196 (by decide +kernel) (by decide +kernel)⟩
set_option maxRecDepth 100000 in
theorem fl_X9_73 : px_fw RX9 73 9 32 := ⟨_, _, _, rfl, by decide, wi_9, px_mem5 197 (by decide +kernel) (by decide +kernel)⟩
set_option maxRecDepth 100000 in
theorem fl_X9_76 : px_fw RX9 76 9 33 := ⟨_, _, _, rfl, by decide, wi_9, px_mem5 198 (by decide +kernel) (by decide +kernel)⟩
set_option maxRecDepth 100000 in
theorem fl_X9_79 : px_fw RX9 79 9 34 := ⟨_, _, _, rfl, by decide, wi_9, px_mem5 199 (by decide +kernel) (by decide +kernel)⟩
set_option maxRecDepth 100000 in
theorem fl_X9_82 : px_fw RX9 82 9 35 := ⟨_, _, _, rfl, by decide, wi_9, px_mem5 200 (by decide +kernel) (by decide +kernel)⟩
set_option maxRecDepth 100000 in
theorem fl_X9_85 : px_fw RX9 85 9 36 := ⟨_, _, _, rfl, by decide, wi_9, px_mem5 201 (by decide +kernel) (by decide +kernel)⟩
set_option maxRecDepth 100000 in
theorem fl_X9_88 : px_fw RX9 88 9 37 := ⟨_, _, _, rfl, by decide, wi_9, px_mem5 202 (by decide +kernel) (by decide +kernel)⟩
set_option maxRecDepth 100000 in
theorem fl_X9_91 : px_fw RX9 91 9 38 := ⟨_, _, _, rfl, by decide, wi_9, px_mem5 203 (by decide +kernel) (by decide +kernel)⟩
set_option maxRecDepth 100000 in
theorem fl_X9_94 : px_fw RX9 94 9 39 := ⟨_, _, _, rfl, by decide, wi_9, px_mem5 204 (by decide +kernel) (by decide +kernel)⟩
set_option maxRecDepth 100000 in
theorem fl_X9_97 : px_fw RX9 97 9 41 := ⟨_, _, _, rfl, by decide, wi_9, px_mem5 206 (by decide +kernel) (by decide +kernel)⟩
set_option maxRecDepth 100000 in
theorem fl_X9_101 : px_fw RX9 101 9 42 := ⟨_, _, _, rfl, by decide, wi_9, px_mem5 207 (by decide +kernel) (by decide +kernel)⟩
set_option maxRecDepth 100000 in
theorem fl_X9_104 : px_fw RX9 104 9 43 := ⟨_, _, _, rfl, by decide, wi_9, px_mem5 208 (by decide +kernel) (by decide +kernel)⟩
set_option maxRecDepth 100000 in
theorem fl_X9_107 : px_fw RX9 107 9 44 := ⟨_, _, _, rfl, by decide, wi_9, px_mem5 209 (by decide +kernel) (by decide +kernel)⟩
set_option maxRecDepth 100000 in
theorem fl_X9_110 : px_fw RX9 110 9 45 := ⟨_, _, _, rfl, by decide, wi_9, px_mem5 210 (by decide +kernel) (by decide +kernel)⟩
set_option maxRecDepth 100000 in
theorem fl_X9_113 : px_fw RX9 113 9 47 := ⟨_, _, _, rfl, by decide, wi_9, px_mem5 212 (by decide +kernel) (by decide +kernel)⟩
set_option maxRecDepth 100000 in
theorem fl_X9_116 : px_fw RX9 116 9 48 := ⟨_, _, _, rfl, by decide, wi_9, px_mem5 213 (by decide +kernel) (by decide +kernel)⟩
set_option maxRecDepth 100000 in
theorem fl_X9_119 : px_fw RX9 119 9 49 := ⟨_, _, _, rfl, by decide, wi_9, px_mem5 214 (by decide +kernel) (by decide +kernel)⟩
set_option maxRecDepth 100000 in
theorem fl_X9_122 : px_fw RX9 122 9 51 := ⟨_, _, _, rfl, by decide, wi_9, px_mem5 216 (by decide +kernel) (by decide +kernel)⟩
set_option maxRecDepth 100000 in
theorem fl_X9_125 : px_fw RX9 125 9 52 := ⟨_, _, _, rfl, by decide, wi_9, px_mem5 217 (by decide +kernel) (by decide +kernel)⟩
set_option maxRecDepth 100000 in
theorem fl_X9_128 : px_fw RX9 128 9 54 := ⟨_, _, _, rfl, by decide, wi_9, px_mem5 219 (by decide +kernel) (by decide +kernel)⟩
set_option maxRecDepth 100000 in
theorem fl_X9_131 : px_fw RX9 131 9 55 := ⟨_, _, _, rfl, by decide, wi_9, px_mem5 220 (by decide +kernel) (by decide +kernel)⟩
set_option maxRecDepth 100000 in
theorem fl_X9_134 : px_fw RX9 134 9 58 := ⟨_, _, _, rfl, by decide, wi_9, px_mem5 223 (by decide +kernel) (by decide +kernel)⟩
set_option maxRecDepth 100000 in
theorem fl_X9_137 : px_fw RX9 137 9 59 := ⟨_, _, _, rfl, by decide, wi_9, px_mem5 224 (by decide +kernel) (by decide +kernel)⟩
set_option maxRecDepth 100000 in
theorem fl_X9_140 : px_fw RX9 140 9 60 := ⟨_, _, _, rfl, by decide, wi_9, px_mem5 225 (by decide +kernel) (by decide +kernel)⟩
set_option maxRecDepth 100000 in
theorem fl_X9_143 : px_fw RX9 143 9 62 := ⟨_, _, _, rfl, by decide, wi_9, px_mem5 227 (by decide +kernel) (by decide +kernel)⟩
set_option maxRecDepth 100000 in
theorem fl_X9_146 : px_fw RX9 146 9 65 := ⟨_, _, _, rfl, by decide, wi_9, px_mem5 230 (by decide +kernel) (by decide +kernel)⟩
set_option maxRecDepth 100000 in
theorem fl_X9_149 : px_fw RX9 149 9 70 := ⟨_, _, _, rfl, by decide, wi_9, px_mem5 235 (by decide +kernel) (by decide +kernel)⟩
set_option maxRecDepth 100000 in
theorem fl_X9_152 : px_fw RX9 152 9 71 := ⟨_, _, _, rfl, by decide, wi_9, px_mem5 236 (by decide +kernel) (by decide +kernel)⟩
set_option maxRecDepth 100000 in
theorem fl_X9_155 : px_fw RX9 155 9 72 := ⟨_, _, _, rfl, by decide, wi_9, px_mem5 237 (by decide +kernel) (by decide +kernel)⟩
set_option maxRecDepth 100000 in
theorem fl_X9_158 : px_fw RX9 158 9 73 := ⟨_, _, _, rfl, by decide, wi_9, px_mem5 238 (by decide +kernel) (by decide +kernel)⟩
set_option maxRecDepth 100000 in
theorem fl_X9_161 : px_fw RX9 161 9 74 := ⟨_, _, _, rfl, by decide, wi_9, px_mem5 239 (by decide +kernel) (by decide +kernel)⟩
set_option maxRecDepth 100000 in
theorem fl_X9_178 : px_fw RX9 178 9 2 := ⟨_, _, _, rfl, by decide, wi_9, px_mem5 167 (by decide +kernel) (by decide +kernel)⟩
theorem fp_X9_178 : px_pw RX9 178 9 2 (px_kd 1) := by
  obtain ⟨C, T, N, h1, h2, h3, h4⟩ := fl_X9_178
  cases h1
  exact ⟨_, _, _, tyX9, rfl, h2, h3, h4, tyX9_ok, nmX9, rfl, rfl⟩
set_option maxRecDepth 100000 in
theorem fl_X9_184 : px_fw RX9 184 9 4 := ⟨_, _, _, rfl, by decide, wi_9, px_mem5 169 (by decide +kernel) (by decide +kernel)⟩
theorem fp_X9_184 : px_pw RX9 184 9 4 (px_kd 1) := by
  obtain ⟨C, T, N, h1, h2, h3, h4⟩ := fl_X9_184
  cases h1
  exact ⟨_, _, _, tyX9, rfl, h2, h3, h4, tyX9_ok, nmX9, rfl, rfl⟩
set_option maxRecDepth 100000 in
theorem fl_X9_193 : px_fw RX9 193 9 10 := ⟨_, _, _, rfl, by decide, wi_9, px_mem5 175 (by decide +kernel) (by decide +kernel)⟩
theorem fp_X9_193 : px_pw RX9 193 9 10 (px_kd 1) := by
  obtain ⟨C, T, N, h1, h2, h3, h4⟩ := fl_X9_193
  cases h1
  exact ⟨_, _, _, tyX9, rfl, h2, h3, h4, tyX9_ok, nmX9, rfl, rfl⟩
set_option maxRecDepth 100000 in
theorem fl_X9_215 : px_fw RX9 215 9 13 := ⟨_, _, _, rfl, by decide, wi_9, px_mem5 178 (by decide +kernel) (by decide +kernel)⟩
theorem fp_X9_215 : px_pw RX9 215 9 13 (px_kd 1) := by
  obtain ⟨C, T, N, h1, h2, h3, h4⟩ := fl_X9_215
  cases h1
  exact ⟨_, _, _, tyX9, rfl, h2, h3, h4, tyX9_ok, nmX9, rfl, rfl⟩
set_option maxRecDepth 100000 in
theorem fl_X9_218 : px_fw RX9 218 9 11 := ⟨_, _, _, rfl, by decide, wi_9, px_mem5 176 (by decide +kernel) (by decide +kernel)⟩
theorem fp_X9_218 : px_pw RX9 218 9 11 (px_kd 1) := by
  obtain ⟨C, T, N, h1, h2, h3, h4⟩ := fl_X9_218
  cases h1
  exact ⟨_, _, _, tyX9, rfl, h2, h3, h4, tyX9_ok, nmX9, rfl, rfl⟩
set_option maxRecDepth 100000 in
theorem fl_X9_221 : px_fw RX9 221 9 14 := ⟨_, _, _, rfl, by decide, wi_9, px_mem5 179 (by decide +kernel) (by decide +kernel)⟩
theorem fp_X9_221 : px_pw RX9 221 9 14 (px_kd 1) := by
  obtain ⟨C, T, N, h1, h2, h3, h4⟩ := fl_X9_221
  cases h1
  exact ⟨_, _, _, tyX9, rfl, h2, h3, h4, tyX9_ok, nmX9, rfl, rfl⟩
set_option maxRecDepth 100000 in
theorem fl_X9_224 : px_fw RX9 224 9 15 := ⟨_, _, _, rfl, by decide, wi_9, px_mem5 180 (by decide +kernel) (by decide +kernel)⟩
theorem fp_X9_224 : px_pw RX9 224 9 15 (px_kd 1) := by
  obtain ⟨C, T, N, h1, h2, h3, h4⟩ := fl_X9_224
  cases h1
  exact ⟨_, _, _, tyX9, rfl, h2, h3, h4, tyX9_ok, nmX9, rfl, rfl⟩
set_option maxRecDepth 100000 in
theorem fl_X9_227 : px_fw RX9 227 9 16 := ⟨_, _, _, rfl, by decide, wi_9, px_mem5 181 (by decide +kernel) (by decide +kernel)⟩
theorem fp_X9_227 : px_pw RX9 227 9 16 (px_kd 1) := by
  obtain ⟨C, T, N, h1, h2, h3, h4⟩ := fl_X9_227
  cases h1
  exact ⟨_, _, _, tyX9, rfl, h2, h3, h4, tyX9_ok, nmX9, rfl, rfl⟩
set_option maxRecDepth 100000 in
theorem fl_X9_242 : px_fw RX9 242 9 12 := ⟨_, _, _, rfl, by decide, wi_9, px_mem5 177 (by decide +kernel) (by decide +kernel)⟩
theorem fp_X9_242 : px_pw RX9 242 9 12 (px_kd 1) := by
  obtain ⟨C, T, N, h1, h2, h3, h4⟩ := fl_X9_242
  cases h1
  exact ⟨_, _, _, tyX9, rfl, h2, h3, h4, tyX9_ok, nmX9, rfl, rfl⟩
set_option maxRecDepth 100000 in
theorem fl_X9_245 : px_fw RX9 245 9 18 := ⟨_, _, _, rfl, by decide, wi_9, px_mem5 183 (by decide +kernel) (by decide +kernel)⟩
theorem fp_X9_245 : px_pw RX9 245 9 18 (px_kd 1) := by
  obtain ⟨C, T, N, h1, h2, h3, h4⟩ := fl_X9_245
  cases h1
  exact ⟨_, _, _, tyX9, rfl, h2, h3, h4, tyX9_ok, nmX9, rfl, rfl⟩
set_option maxRecDepth 100000 in
theorem fl_X9_248 : px_fw RX9 248 9 19 := ⟨_, _, _, rfl, by decide, wi_9, px_mem5 184 (by decide +kernel) (by decide +kernel)⟩
theorem fp_X9_248 : px_pw RX9 248 9 19 (px_kd 1) := by
  obtain ⟨C, T, N, h1, h2, h3, h4⟩ := fl_X9_248
  cases h1
  exact ⟨_, _, _, tyX9, rfl, h2, h3, h4, tyX9_ok, nmX9, rfl, rfl⟩
set_option maxRecDepth 100000 in
theorem fl_X9_251 : px_fw RX9 251 9 20 := ⟨_, _, _, rfl, by decide, wi_9, px_mem5 185 (by decide +kernel) (by decide +kernel)⟩
theorem fp_X9_251 : px_pw RX9 251 9 20 (px_kd 1) := by
  obtain ⟨C, T, N, h1, h2, h3, h4⟩ := fl_X9_251
  cases h1
  exact ⟨_, _, _, tyX9, rfl, h2, h3, h4, tyX9_ok, nmX9, rfl, rfl⟩
set_option maxRecDepth 100000 in
theorem fl_X9_254 : px_fw RX9 254 9 40 := ⟨_, _, _, rfl, by decide, wi_9, px_mem5 205 (by decide +kernel) (by decide +kernel)⟩
theorem fp_X9_254 : px_pw RX9 254 9 40 (px_kd 1) := by
  obtain ⟨C, T, N, h1, h2, h3, h4⟩ := fl_X9_254
  cases h1
  exact ⟨_, _, _, tyX9, rfl, h2, h3, h4, tyX9_ok, nmX9, rfl, rfl⟩
set_option maxRecDepth 100000 in
theorem fl_X9_257 : px_fw RX9 257 9 46 := ⟨_, _, _, rfl, by decide, wi_9, px_mem5 211 (by decide +kernel) (by decide +kernel)⟩
theorem fp_X9_257 : px_pw RX9 257 9 46 (px_kd 1) := by
  obtain ⟨C, T, N, h1, h2, h3, h4⟩ := fl_X9_257
  cases h1
  exact ⟨_, _, _, tyX9, rfl, h2, h3, h4, tyX9_ok, nmX9, rfl, rfl⟩
set_option maxRecDepth 100000 in
theorem fl_X9_267 : px_fw RX9 267 9 61 := ⟨_, _, _, rfl, by decide, wi_9, px_mem5 226 (by decide +kernel) (by decide +kernel)⟩
theorem fp_X9_267 : px_pw RX9 267 9 61 (px_kd 1) := by
  obtain ⟨C, T, N, h1, h2, h3, h4⟩ := fl_X9_267
  cases h1
  exact ⟨_, _, _, tyX9, rfl, h2, h3, h4, tyX9_ok, nmX9, rfl, rfl⟩
set_option maxRecDepth 100000 in
theorem fl_X9_270 : px_fw RX9 270 9 69 := ⟨_, _, _, rfl, by decide, wi_9, px_mem5 234 (by decide +kernel) (by decide +kernel)⟩
theorem fp_X9_270 : px_pw RX9 270 9 69 (px_kd 1) := by
  obtain ⟨C, T, N, h1, h2, h3, h4⟩ := fl_X9_270
  cases h1
  exact ⟨_, _, _, tyX9, rfl, h2, h3, h4, tyX9_ok, nmX9, rfl, rfl⟩
set_option maxRecDepth 100000 in
theorem fl_X9_314 : px_fw RX9 314 9 50 := ⟨_, _, _, rfl, by decide, wi_9, px_mem5 215 (by decide +kernel) (by decide +kernel)⟩
theorem fp_X9_314 : px_pw RX9 314 9 50 (px_kd 1) := by
  obtain ⟨C, T, N, h1, h2, h3, h4⟩ := fl_X9_314
  cases h1
  exact ⟨_, _, _, tyX9, rfl, h2, h3, h4, tyX9_ok, nmX9, rfl, rfl⟩
set_option maxRecDepth 100000 in
theorem fl_X9_327 : px_fw RX9 327 9 53 := ⟨_, _, _, rfl, by decide, wi_9, px_mem5 218 (by decide +kernel) (by decide +kernel)⟩
theorem fp_X9_327 : px_pw RX9 327 9 53 (px_kd 4) := by
  obtain ⟨C, T, N, h1, h2, h3, h4⟩ := fl_X9_327
  cases h1
  exact ⟨_, _, _, tyX9, rfl, h2, h3, h4, tyX9_ok, nmX9, rfl, rfl⟩
set_option maxRecDepth 100000 in
theorem fl_X9_338 : px_fw RX9 338 9 56 := ⟨_, _, _, rfl, by decide, wi_9, px_mem5 221 (by decide +kernel) (by decide +kernel)⟩
theorem fp_X9_338 : px_pw RX9 338 9 56 (px_kd 1) := by
  obtain ⟨C, T, N, h1, h2, h3, h4⟩ := fl_X9_338
  cases h1
  exact ⟨_, _, _, tyX9, rfl, h2, h3, h4, tyX9_ok, nmX9, rfl, rfl⟩
set_option maxRecDepth 100000 in
theorem fl_X9_341 : px_fw RX9 341 9 57 := ⟨_, _, _, rfl, by decide, wi_9, px_mem5 222 (by decide +kernel) (by decide +kernel)⟩
theorem fp_X9_341 : px_pw RX9 341 9 57 (px_kd 4) := by
  obtain ⟨C, T, N, h1, h2, h3, h4⟩ := fl_X9_341
  cases h1
  exact ⟨_, _, _, tyX9, rfl, h2, h3, h4, tyX9_ok, nmX9, rfl, rfl⟩
set_option maxRecDepth 100000 in
theorem fl_X9_433 : px_fw RX9 433 9 64 := ⟨_, _, _, rfl, by decide, wi_9, px_mem5 229 (by decide +kernel) (by decide +kernel)⟩
theorem fp_X9_433 : px_pw RX9 433 9 64 (px_kd 1) := by
  obtain ⟨C, T, N, h1, h2, h3, h4⟩ := fl_X9_433
  cases h1
  exact ⟨_, _, _, tyX9, rfl, h2, h3, h4, tyX9_ok, nmX9, rfl, rfl⟩
set_option maxRecDepth 100000 in
theorem fl_X9_439 : px_fw RX9 439 9 63 := ⟨_, _, _, rfl, by decide, wi_9, px_mem5 228 (by decide +kernel) (by decide +kernel)⟩
theorem fp_X9_439 : px_pw RX9 439 9 63 (px_kd 1) := by
  obtain ⟨C, T, N, h1, h2, h3, h4⟩ := fl_X9_439
  cases h1
  exact ⟨_, _, _, tyX9, rfl, h2, h3, h4, tyX9_ok, nmX9, rfl, rfl⟩
set_option maxRecDepth 100000 in
theorem fl_X9_445 : px_fw RX9 445 9 66 := ⟨_, _, _, rfl, by decide, wi_9, px_mem5 231 (by decide +kernel) (by decide +kernel)⟩
theorem fp_X9_445 : px_pw RX9 445 9 66 (px_kd 1) := by
  obtain ⟨C, T, N, h1, h2, h3, h4⟩ := fl_X9_445
  cases h1
  exact ⟨_, _, _, tyX9, rfl, h2, h3, h4, tyX9_ok, nmX9, rfl, rfl⟩
set_option maxRecDepth 100000 in
theorem fl_X9_448 : px_fw RX9 448 9 68 := ⟨_, _, _, rfl, by decide, wi_9, px_mem5 233 (by decide +kernel) (by decide +kernel)⟩
theorem fp_X9_448 : px_pw RX9 448 9 68 (px_kd 1) := by
  obtain ⟨C, T, N, h1, h2, h3, h4⟩ := fl_X9_448
  cases h1
  exact ⟨_, _, _, tyX9, rfl, h2, h3, h4, tyX9_ok, nmX9, rfl, rfl⟩
set_option maxRecDepth 100000 in
theorem fl_X9_457 : px_fw RX9 457 9 67 := ⟨_, _, _, rfl, by decide, wi_9, px_mem5 232 (by decide +kernel) (by decide +kernel)⟩
theorem fp_X9_457 : px_pw RX9 457 9 67 (px_kd 1) := by
  obtain ⟨C, T, N, h1, h2, h3, h4⟩ := fl_X9_457
  cases h1
  exact ⟨_, _, _, tyX9, rfl, h2, h3, h4, tyX9_ok, nmX9, rfl, rfl⟩
def ft_X9 : px_FT := [(13, 9, 1, 0), (17, 9, 3, 0), (20, 9, 5, 0), (24, 9, 6, 0), (27, 9, 7, 0), (30, 9, 8, 0), (34, 9, 9, 0), (37, 9, 17, 1), (40, 9, 21, 0), (43, 9, 22, 0), (46, 9, 23, 0), (49, 9, 24, 0), (52, 9, 25, 0), (55, 9, 26, 0), (58, 9, 27, 0), (61, 9, 28, 0), (64, 9, 29, 0), (67, 9, 30, 0), (70, 9, 31, 0), (73, 9, 32, 0), (76, 9, 33, 0), (79, 9, 34, 0), (82, 9, 35, 0), (85, 9, 36, 0), (88, 9, 37, 0), (91, 9, 38, 0), (94, 9, 39, 0), (97, 9, 41, 0), (101, 9, 42, 0), (104, 9, 43, 0), (107, 9, 44, 0), (110, 9, 45, 0), (113, 9, 47, 0), (116, 9, 48, 0), (119, 9, 49, 0), (122, 9, 51, 0), (125, 9, 52, 0), (128, 9, 54, 0), (131, 9, 55, 0), (134, 9, 58, 0), (137, 9, 59, 0), (140, 9, 60, 0), (143, 9, 62, 0), (146, 9, 65, 0), (149, 9, 70, 0), (152, 9, 71, 0), (155, 9, 72, 0), (158, 9, 73, 0), (161, 9, 74, 0), (178, 9, 2, 1), (184, 9, 4, 1), (193, 9, 10, 1), (215, 9, 13, 1), (218, 9, 11, 1), (221, 9, 14, 1), (224, 9, 15, 1), (227, 9, 16, 1), (242, 9, 12, 1), (245, 9, 18, 1), (248, 9, 19, 1), (251, 9, 20, 1), (254, 9, 40, 1), (257, 9, 46, 1), (267, 9, 61, 1), (270, 9, 69, 1), (314, 9, 50, 1), (327, 9, 53, 4), (338, 9, 56, 1), (341, 9, 57, 4), (433, 9, 64, 1), (439, 9, 63, 1), (445, 9, 66, 1), (448, 9, 68, 1), (457, 9, 67, 1)]
theorem ft_X9_ok : px_FTok RX9 ft_X9 := List.forall_mem_cons.mpr ⟨⟨fl_X9_13, fun h => absurd rfl h⟩, List.forall_mem_cons.mpr ⟨⟨fl_X9_17, fun h => absurd rfl h⟩, List.forall_mem_cons.mpr ⟨⟨fl_X9_20, fun h => absurd rfl h⟩, List.forall_mem_cons.mpr ⟨⟨fl_X9_24, fun h => absurd rfl h⟩, List.forall_mem_cons.mpr ⟨⟨fl_X9_27, fun h => absurd rfl h⟩, List.forall_mem_cons.mpr ⟨⟨fl_X9_30, fun h => absurd rfl h⟩, List.forall_mem_cons.mpr ⟨⟨fl_X9_34, fun h => absurd rfl h⟩, List.forall_mem_cons.mpr ⟨⟨fl_X9_37, fun _ => fp_X9_37⟩, List.forall_mem_cons.mpr ⟨⟨fl_X9_40, fun h => absurd rfl h⟩, List.forall_mem_cons.mpr ⟨⟨fl_X9_43, fun h => absurd rfl h⟩, List.forall_mem_cons.mpr ⟨⟨fl_X9_46, fun h => absurd rfl h⟩, List.forall_mem_cons.mpr ⟨⟨fl_X9_49, fun h => absurd rfl h⟩, List.forall_mem_cons.mpr ⟨⟨fl_X9_52, fun h => absurd rfl h⟩, List.forall_mem_cons.mpr ⟨⟨fl_X9_55, fun h => absurd rfl h⟩, List.forall_mem_cons.mpr ⟨⟨fl_X9_58, fun h => absurd rfl h⟩, List.forall_mem_cons.mpr ⟨⟨fl_X9_61, fun h => absurd rfl h⟩, List.forall_mem_cons.mpr ⟨⟨fl_X9_64, fun h => absurd rfl h⟩, List.forall_mem_cons.mpr ⟨⟨fl_X9_67, fun h => absurd rfl h⟩, List.forall_mem_cons.mpr ⟨⟨fl_X9_70, fun h => absurd rfl h⟩, List.forall_mem_cons.mpr ⟨⟨fl_X9_73, fun h => absurd rfl h⟩, List.forall_mem_cons.mpr ⟨⟨fl_X9_76, fun h => absurd rfl h⟩, List.forall_mem_cons.mpr ⟨⟨fl_X9_79, fun h => absurd rfl h⟩, List.forall_mem_cons.mpr ⟨⟨fl_X9_82, fun h => absurd rfl h⟩, List.forall_mem_cons.mpr ⟨⟨fl_X9_85, fun h => absurd rfl h⟩, List.forall_mem_cons.mpr ⟨⟨fl_X9_88, fun h => absurd rfl h⟩, List.forall_mem_cons.mpr ⟨⟨fl_X9_91, fun h => absurd rfl h⟩, List.forall_mem_cons.mpr ⟨⟨fl_X9_94, fun h => absurd rfl h⟩, List.forall_mem_cons.mpr ⟨⟨fl_X9_97, fun h => absurd rfl h⟩, List.forall_mem_cons.mpr ⟨⟨fl_X9_101, fun h => absurd rfl h⟩, List.forall_mem_cons.mpr ⟨⟨fl_X9_104, fun h => absurd rfl h⟩, List.forall_mem_cons.mpr ⟨⟨fl_X9_107, fun h => absurd rfl h⟩, List.forall_mem_cons.mpr ⟨⟨fl_X9_110, fun h => absurd rfl h⟩, List.forall_mem_cons.mpr ⟨⟨fl_X9_113, fun h => absurd rfl h⟩, List.forall_mem_cons.mpr ⟨⟨fl_X9_116, fun h => absurd rfl h⟩, List.forall_mem_cons.mpr ⟨⟨fl_X9_119, fun h => absurd rfl h⟩, List.forall_mem_cons.mpr ⟨⟨fl_X9_122, fun h => absurd rfl h⟩, List.forall_mem_cons.mpr ⟨⟨fl_X9_125, fun h => absurd rfl h⟩, List.forall_mem_cons.mpr ⟨⟨fl_X9_128, fun h => absurd rfl h⟩, List.forall_mem_cons.mpr ⟨⟨fl_X9_131, fun h => absurd rfl h⟩, List.forall_mem_cons.mpr ⟨⟨fl_X9_134, fun h => absurd rfl h⟩, List.forall_mem_cons.mpr ⟨⟨fl_X9_137, fun h => absurd rfl h⟩, List.forall_mem_cons.mpr ⟨⟨fl_X9_140, fun h => absurd rfl h⟩, List.forall_mem_cons.mpr ⟨⟨fl_X9_143, fun h => absurd rfl h⟩, List.forall_mem_cons.mpr ⟨⟨fl_X9_146, fun h => absurd rfl h⟩, List.forall_mem_cons.mpr ⟨⟨fl_X9_149, fun h => absurd rfl h⟩, List.forall_mem_cons.mpr ⟨⟨fl_X9_152, fun h => absurd rfl h⟩, List.forall_mem_cons.mpr ⟨⟨fl_X9_155, fun h => absurd rfl h⟩, List.forall_mem_cons.mpr ⟨⟨fl_X9_158, fun h => absurd rfl h⟩, List.forall_mem_cons.mpr ⟨⟨fl_X9_161, fun h => absurd rfl h⟩, List.forall_mem_cons.mpr ⟨⟨fl_X9_178, fun _ => fp_X9_178⟩, List.forall_mem_cons.mpr ⟨⟨fl_X9_184, fun _ => fp_X9_184⟩, List.forall_mem_cons.mpr ⟨⟨fl_X9_193, fun _ => fp_X9_193⟩, List.forall_mem_cons.mpr ⟨⟨fl_X9_215, fun _ => fp_X9_215⟩, List.forall_mem_cons.mpr ⟨⟨fl_X9_218, fun _ => fp_X9_218⟩, List.forall_mem_cons.mpr ⟨⟨fl_X9_221, fun _ => fp_X9_221⟩, List.forall_mem_cons.mpr ⟨⟨fl_X9_224, fun _ => fp_X9_224⟩, List.forall_mem_cons.mpr ⟨⟨fl_X9_227, fun _ => fp_X9_227⟩, List.forall_mem_cons.mpr ⟨⟨fl_X9_242, fun _ => fp_X9_242⟩, List.forall_mem_cons.mpr ⟨⟨fl_X9_245, fun _ => fp_X9_245⟩, List.forall_mem_cons.mpr ⟨⟨fl_X9_248, fun _ => fp_X9_248⟩, List.forall_mem_cons.mpr ⟨⟨fl_X9_251, fun _ => fp_X9_251⟩, List.forall_mem_cons.mpr ⟨⟨fl_X9_254, fun _ => fp_X9_254⟩, List.forall_mem_cons.mpr ⟨⟨fl_X9_257, fun _ => fp_X9_257⟩, List.forall_mem_cons.mpr ⟨⟨fl_X9_267, fun _ => fp_X9_267⟩, List.forall_mem_cons.mpr ⟨⟨fl_X9_270, fun _ => fp_X9_270⟩, List.forall_mem_cons.mpr ⟨⟨fl_X9_314, fun _ => fp_X9_314⟩, List.forall_mem_cons.mpr ⟨⟨fl_X9_327, fun _ => fp_X9_327⟩, List.forall_mem_cons.mpr ⟨⟨fl_X9_338, fun _ => fp_X9_338⟩, List.forall_mem_cons.mpr ⟨⟨fl_X9_341, fun _ => fp_X9_341⟩, List.forall_mem_cons.mpr ⟨⟨fl_X9_433, fun _ => fp_X9_433⟩, List.forall_mem_cons.mpr ⟨⟨fl_X9_439, fun _ => fp_X9_439⟩, List.forall_mem_cons.mpr ⟨⟨fl_X9_445, fun _ => fp_X9_445⟩, List.forall_mem_cons.mpr ⟨⟨fl_X9_448, fun _ => fp_X9_448⟩, List.forall_mem_cons.mpr ⟨⟨fl_X9_457, fun _ => fp_X9_457⟩, fun _ h => absurd h List.not_mem_nil⟩⟩⟩⟩⟩⟩⟩⟩⟩⟩⟩⟩⟩⟩⟩⟩⟩⟩⟩⟩⟩⟩⟩⟩⟩⟩⟩⟩⟩⟩⟩⟩⟩⟩⟩⟩⟩⟩⟩⟩⟩⟩⟩⟩⟩⟩⟩⟩⟩⟩⟩⟩⟩⟩⟩⟩⟩⟩⟩⟩⟩⟩⟩⟩⟩⟩⟩⟩⟩⟩⟩⟩⟩⟩
