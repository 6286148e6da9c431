/-! MAKING: the links -/
set_option maxRecDepth 100000 in
theorem ko_L_7 : px_kO RL 7 8 13 [.null, .null, .null, .null, .null, .null, .null, .null, .null, .null, .int 0, .int 0, .int 0] := ⟨_, _, tyX8, rfl, wi_8, tyX8_ok, px_mem1 19 (by decide +kernel) (by decide +kernel), px_mem1 20 (by decide +kernel) (by decide +kernel), px_mem1 1 (by decide +kernel) (by decide +kernel), by decide +kernel, by decide, rfl⟩
set_option maxRecDepth 100000 in
theorem ko_X8_7 : px_kO RX8 7 7 18 [.int 0, .int 0, .int 0, .int 0, .int 0, .int 0, .int 0, .null, .null, .null, .null, .null, .null, .null, .null, .null, .null, .null] := ⟨_, _, tyX7, rfl, wi_7, tyX7_ok, px_mem1 27 (by decide +kernel) (by decide +kernel), px_mem1 28 (by decide +kernel) (by decide +kernel), px_mem1 2 (by decide +kernel) (by decide +kernel), by decide +kernel, by decide, rfl⟩
set_option maxRecDepth 100000 in
theorem ko_X7_43 : px_kO RX7 43 0 4 [.null, .null, .null, .int 0] := ⟨_, _, tyX0, rfl, wi_0, tyX0_ok, px_mem1 33 (by decide +kernel) (by decide +kernel), px_mem1 34 (by decide +kernel) (by decide +kernel), px_mem1 3 (by decide +kernel) (by decide +kernel), by decide +kernel, by decide, rfl⟩
set_option maxRecDepth 100000 in
theorem ko_X8_19 : px_kO RX8 19 3 13 [.int 0, .int 0, .null, .null, .null, .null, .null, .int 0, .int 0, .int 0, .int 0, .int 0, .null] := ⟨_, _, tyX3, rfl, wi_3, tyX3_ok, px_mem1 174 (by decide +kernel) (by decide +kernel), px_mem1 175 (by decide +kernel) (by decide +kernel), px_mem1 4 (by decide +kernel) (by decide +kernel), by decide +kernel, by decide, rfl⟩
set_option maxRecDepth 100000 in
theorem ko_X8_26 : px_kO RX8 26 4 2 [.null, .null] := ⟨_, _, tyX4, rfl, wi_4, tyX4_ok, px_mem2 35 (by decide +kernel) (by decide +kernel), px_mem2 36 (by decide +kernel) (by decide +kernel), px_mem1 9 (by decide +kernel) (by decide +kernel), by decide +kernel, by decide, rfl⟩
set_option maxRecDepth 100000 in
theorem ko_X8_35 : px_kO RX8 35 2 15 [.int 0, .int 0, .int 0, .int 0, .null, .null, .null, .null, .null, .null, .null, .null, .null, .null, .int 0] := ⟨_, _, tyX2, rfl, wi_2, tyX2_ok, px_mem2 51 (by decide +kernel) (by decide +kernel), px_mem2 52 (by decide +kernel) (by decide +kernel), px_mem1 10 (by decide +kernel) (by decide +kernel), by decide +kernel, by decide, rfl⟩
set_option maxRecDepth 100000 in
theorem ko_X2_18 : px_kO RX2 18 1 9 [.int 0, .int 0, .int 0, .int 0, .int 0, .null, .null, .null, .null] := ⟨_, _, tyX1, rfl, wi_1, tyX1_ok, px_mem2 57 (by decide +kernel) (by decide +kernel), px_mem2 58 (by decide +kernel) (by decide +kernel), px_mem1 11 (by decide +kernel) (by decide +kernel), by decide +kernel, by decide, rfl⟩
set_option maxRecDepth 100000 in
theorem ko_X2_28 : px_kO RX2 28 6 1 [.null] := ⟨_, _, tyX6, rfl, wi_6, tyX6_ok, px_mem2 124 (by decide +kernel) (by decide +kernel), px_mem2 125 (by decide +kernel) (by decide +kernel), px_mem1 12 (by decide +kernel) (by decide +kernel), by decide +kernel, by decide, rfl⟩
set_option maxRecDepth 100000 in
theorem ko_X8_44 : px_kO RX8 44 5 8 [.int 0, .null, .int 0, .null, .null, .null, .null, .null] := ⟨_, _, tyX5, rfl, wi_5, tyX5_ok, px_mem2 189 (by decide +kernel) (by decide +kernel), px_mem2 190 (by decide +kernel) (by decide +kernel), px_mem1 14 (by decide +kernel) (by decide +kernel), by decide +kernel, by decide, rfl⟩
set_option maxRecDepth 100000 in
theorem ko_X5_24 : px_kO RX5 24 1 9 [.int 0, .int 0, .int 0, .int 0, .int 0, .null, .null, .null, .null] := ⟨_, _, tyX1, rfl, wi_1, tyX1_ok, px_mem2 195 (by decide +kernel) (by decide +kernel), px_mem2 58 (by decide +kernel) (by decide +kernel), px_mem1 11 (by decide +kernel) (by decide +kernel), by decide +kernel, by decide, rfl⟩
set_option maxRecDepth 100000 in
theorem ko_X8_51 : px_kO RX8 51 1 9 [.int 0, .int 0, .int 0, .int 0, .int 0, .null, .null, .null, .null] := ⟨_, _, tyX1, rfl, wi_1, tyX1_ok, px_mem2 224 (by decide +kernel) (by decide +kernel), px_mem2 58 (by decide +kernel) (by decide +kernel), px_mem1 11 (by decide +kernel) (by decide +kernel), by decide +kernel, by decide, rfl⟩
set_option maxRecDepth 100000 in
theorem ko_X8_61 : px_kO RX8 61 6 1 [.null] := ⟨_, _, tyX6, rfl, wi_6, tyX6_ok, px_mem2 226 (by decide +kernel) (by decide +kernel), px_mem2 125 (by decide +kernel) (by decide +kernel), px_mem1 12 (by decide +kernel) (by decide +kernel), by decide +kernel, by decide, rfl⟩
set_option maxRecDepth 100000 in
theorem ko_L_10 : px_kO RL 10 9 75 [.int 0, .null, .int 0, .null, .int 0, .null, .null, .null, .null, .null, .int 0, .int 0, .int 0, .int 0, .int 0, .int 0, .int 0, .int 0, .int 0, .int 0, .int 0, .null, .null, .null, .null, .null, .null, .null, .null, .null, .null, .null, .null, .null, .null, .null, .null, .null, .null, .null, .int 0, .null, .null, .null, .null, .null, .int 0, .null, .null, .null, .int 0, .null, .null, .int 0, .null, .null, .int 0, .int 0, .null, .null, .null, .int 0, .null, .int 0, .int 0, .null, .int 0, .int 0, .int 0, .int 0, .null, .null, .null, .null, .null] := ⟨_, _, tyX9, rfl, wi_9, tyX9_ok, px_mem5 137 (by decide +kernel) (by decide +kernel), px_mem5 138 (by decide +kernel) (by decide +kernel), px_mem1 15 (by decide +kernel) (by decide +kernel), by decide +kernel, by decide, rfl⟩
set_option maxRecDepth 100000 in
theorem cw_X8_init : Cond.code mX8_init.1 mX8_init.2.1 mX8_init.2.2.1 mX8_init.2.2.2 ∈ px_tbl := px_mem1 23 (by rfl) (by rfl)
set_option maxRecDepth 100000 in
theorem kI_L_9 : px_kI RL 9 mX8_init 0 := ⟨Or.inl (px_mem1 21 (by decide +kernel) (by decide +kernel)), px_mem1 22 (by decide +kernel) (by decide +kernel), px_mem1 1 (by decide +kernel) (by decide +kernel), cw_X8_init, by decide, rfl, rfl, by decide, by decide, by decide +kernel⟩
set_option maxRecDepth 100000 in
theorem ki0_X8_1 : px_kI0 RX8 1 := ⟨px_mem1 24 (by decide +kernel) (by decide +kernel), px_mem1 25 (by decide +kernel) (by decide +kernel), px_mem1 26 (by rfl) (by rfl)⟩
set_option maxRecDepth 100000 in
theorem cw_X7_init : Cond.code mX7_init.1 mX7_init.2.1 mX7_init.2.2.1 mX7_init.2.2.2 ∈ px_tbl := px_mem1 31 (by rfl) (by rfl)
set_option maxRecDepth 100000 in
theorem kI_X8_9 : px_kI RX8 9 mX7_init 0 := ⟨Or.inl (px_mem1 29 (by decide +kernel) (by decide +kernel)), px_mem1 30 (by decide +kernel) (by decide +kernel), px_mem1 2 (by decide +kernel) (by decide +kernel), cw_X7_init, by decide, rfl, rfl, by decide, by decide, by decide +kernel⟩
set_option maxRecDepth 100000 in
theorem ki0_X7_3 : px_kI0 RX7 3 := ⟨px_mem1 32 (by decide +kernel) (by decide +kernel), px_mem1 25 (by decide +kernel) (by decide +kernel), px_mem1 26 (by rfl) (by rfl)⟩
set_option maxRecDepth 100000 in
theorem cw_X0_init : Cond.code mX0_init.1 mX0_init.2.1 mX0_init.2.2.1 mX0_init.2.2.2 ∈ px_tbl := px_mem1 37 (by rfl) (by rfl)
set_option maxRecDepth 100000 in
theorem kI_X7_45 : px_kI RX7 45 mX0_init 0 := ⟨Or.inr ⟨"SleepBridge", by decide +kernel⟩, px_mem1 36 (by decide +kernel) (by decide +kernel), px_mem1 3 (by decide +kernel) (by decide +kernel), cw_X0_init, by decide, rfl, rfl, by decide, by decide, by decide +kernel⟩
set_option maxRecDepth 100000 in
theorem ki0_X0_5 : px_kI0 RX0 5 := ⟨px_mem1 38 (by decide +kernel) (by decide +kernel), px_mem1 25 (by decide +kernel) (by decide +kernel), px_mem1 26 (by rfl) (by rfl)⟩
set_option maxRecDepth 100000 in
theorem cw_X3_init : Cond.code mX3_init.1 mX3_init.2.1 mX3_init.2.2.1 mX3_init.2.2.2 ∈ px_tbl := px_mem1 178 (by rfl) (by rfl)
set_option maxRecDepth 100000 in
theorem kI_X8_21 : px_kI RX8 21 mX3_init 0 := ⟨Or.inl (px_mem1 176 (by decide +kernel) (by decide +kernel)), px_mem1 177 (by decide +kernel) (by decide +kernel), px_mem1 4 (by decide +kernel) (by decide +kernel), cw_X3_init, by decide, rfl, rfl, by decide, by decide, by decide +kernel⟩
set_option maxRecDepth 100000 in
theorem ki0_X3_3 : px_kI0 RX3 3 := ⟨px_mem1 179 (by decide +kernel) (by decide +kernel), px_mem1 25 (by decide +kernel) (by decide +kernel), px_mem1 26 (by rfl) (by rfl)⟩
set_option maxRecDepth 100000 in
theorem cw_X4_init : Cond.code mX4_init.1 mX4_init.2.1 mX4_init.2.2.1 mX4_init.2.2.2 ∈ px_tbl := px_mem2 39 (by rfl) (by rfl)
set_option maxRecDepth 100000 in
theorem kI_X8_28 : px_kI RX8 28 mX4_init 1 := ⟨Or.inl (px_mem2 37 (by decide +kernel) (by decide +kernel)), px_mem2 38 (by decide +kernel) (by decide +kernel), px_mem1 9 (by decide +kernel) (by decide +kernel), cw_X4_init, by decide, rfl, rfl, by decide, by decide, by decide +kernel⟩
set_option maxRecDepth 100000 in
theorem ki0_X4_3 : px_kI0 RX4 3 := ⟨px_mem2 40 (by decide +kernel) (by decide +kernel), px_mem1 25 (by decide +kernel) (by decide +kernel), px_mem1 26 (by rfl) (by rfl)⟩
set_option maxRecDepth 100000 in
theorem cw_X2_init : Cond.code mX2_init.1 mX2_init.2.1 mX2_init.2.2.1 mX2_init.2.2.2 ∈ px_tbl := px_mem2 55 (by rfl) (by rfl)
set_option maxRecDepth 100000 in
theorem kI_X8_37 : px_kI RX8 37 mX2_init 1 := ⟨Or.inl (px_mem2 53 (by decide +kernel) (by decide +kernel)), px_mem2 54 (by decide +kernel) (by decide +kernel), px_mem1 10 (by decide +kernel) (by decide +kernel), cw_X2_init, by decide, rfl, rfl, by decide, by decide, by decide +kernel⟩
set_option maxRecDepth 100000 in
theorem ki0_X2_3 : px_kI0 RX2 3 := ⟨px_mem2 56 (by decide +kernel) (by decide +kernel), px_mem1 25 (by decide +kernel) (by decide +kernel), px_mem1 26 (by rfl) (by rfl)⟩
set_option maxRecDepth 100000 in
theorem cw_X1_init : Cond.code mX1_init.1 mX1_init.2.1 mX1_init.2.2.1 mX1_init.2.2.2 ∈ px_tbl := px_mem2 61 (by rfl) (by rfl)
set_option maxRecDepth 100000 in
theorem kI_X2_20 : px_kI RX2 20 mX1_init 0 := ⟨Or.inr ⟨"SleepBridge", by decide +kernel⟩, px_mem2 60 (by decide +kernel) (by decide +kernel), px_mem1 11 (by decide +kernel) (by decide +kernel), cw_X1_init, by decide, rfl, rfl, by decide, by decide, by decide +kernel⟩
set_option maxRecDepth 100000 in
theorem ki0_X1_3 : px_kI0 RX1 3 := ⟨px_mem2 62 (by decide +kernel) (by decide +kernel), px_mem1 25 (by decide +kernel) (by decide +kernel), px_mem1 26 (by rfl) (by rfl)⟩
set_option maxRecDepth 100000 in
theorem cw_X6_init : Cond.code mX6_init.1 mX6_init.2.1 mX6_init.2.2.1 mX6_init.2.2.2 ∈ px_tbl := px_mem2 128 (by rfl) (by rfl)
set_option maxRecDepth 100000 in
theorem kI_X2_30 : px_kI RX2 30 mX6_init 1 := ⟨Or.inl (px_mem2 126 (by decide +kernel) (by decide +kernel)), px_mem2 127 (by decide +kernel) (by decide +kernel), px_mem1 12 (by decide +kernel) (by decide +kernel), cw_X6_init, by decide, rfl, rfl, by decide, by decide, by decide +kernel⟩
set_option maxRecDepth 100000 in
theorem ki0_X6_3 : px_kI0 RX6 3 := ⟨px_mem2 129 (by decide +kernel) (by decide +kernel), px_mem1 25 (by decide +kernel) (by decide +kernel), px_mem1 26 (by rfl) (by rfl)⟩
set_option maxRecDepth 100000 in
theorem cw_X5_init : Cond.code mX5_init.1 mX5_init.2.1 mX5_init.2.2.1 mX5_init.2.2.2 ∈ px_tbl := px_mem2 193 (by rfl) (by rfl)
set_option maxRecDepth 100000 in
theorem kI_X8_46 : px_kI RX8 46 mX5_init 1 := ⟨Or.inl (px_mem2 191 (by decide +kernel) (by decide +kernel)), px_mem2 192 (by decide +kernel) (by decide +kernel), px_mem1 14 (by decide +kernel) (by decide +kernel), cw_X5_init, by decide, rfl, rfl, by decide, by decide, by decide +kernel⟩
set_option maxRecDepth 100000 in
theorem ki0_X5_3 : px_kI0 RX5 3 := ⟨px_mem2 194 (by decide +kernel) (by decide +kernel), px_mem1 25 (by decide +kernel) (by decide +kernel), px_mem1 26 (by rfl) (by rfl)⟩
set_option maxRecDepth 100000 in
theorem kI_X5_26 : px_kI RX5 26 mX1_init 0 := ⟨Or.inr ⟨"SleepBridge", by decide +kernel⟩, px_mem2 60 (by decide +kernel) (by decide +kernel), px_mem1 11 (by decide +kernel) (by decide +kernel), cw_X1_init, by decide, rfl, rfl, by decide, by decide, by decide +kernel⟩
set_option maxRecDepth 100000 in
theorem kI_X8_53 : px_kI RX8 53 mX1_init 0 := ⟨Or.inr ⟨"SleepBridge", by decide +kernel⟩, px_mem2 60 (by decide +kernel) (by decide +kernel), px_mem1 11 (by decide +kernel) (by decide +kernel), cw_X1_init, by decide, rfl, rfl, by decide, by decide, by decide +kernel⟩
set_option maxRecDepth 100000 in
theorem kI_X8_63 : px_kI RX8 63 mX6_init 1 := ⟨Or.inl (px_mem2 227 (by decide +kernel) (by decide +kernel)), px_mem2 127 (by decide +kernel) (by decide +kernel), px_mem1 12 (by decide +kernel) (by decide +kernel), cw_X6_init, by decide, rfl, rfl, by decide, by decide, by decide +kernel⟩
set_option maxRecDepth 100000 in
theorem cw_X9_init : Cond.code mX9_init.1 mX9_init.2.1 mX9_init.2.2.1 mX9_init.2.2.2 ∈ px_tbl := px_mem5 141 (by rfl) (by rfl)
set_option maxRecDepth 100000 in
theorem kI_L_12 : px_kI RL 12 mX9_init 0 := ⟨Or.inl (px_mem5 139 (by decide +kernel) (by decide +kernel)), px_mem5 140 (by decide +kernel) (by decide +kernel), px_mem1 15 (by decide +kernel) (by decide +kernel), cw_X9_init, by decide, rfl, rfl, by decide, by decide, by decide +kernel⟩
set_option maxRecDepth 100000 in
theorem ki0_X9_7 : px_kI0 RX9 7 := ⟨px_mem5 142 (by decide +kernel) (by decide +kernel), px_mem1 25 (by decide +kernel) (by decide +kernel), px_mem1 26 (by rfl) (by rfl)⟩
theorem kf_X0_13 : px_pwF RX0 13 0 0 := by
  obtain ⟨C, T, N, h1, h2, h3, h4⟩ := fl_X0_13
  cases h1
  exact ⟨_, _, _, tyX0, rfl, h2, h3, h4, tyX0_ok, nmX0, rfl, rfl, rfl⟩
theorem kf_X0_17 : px_pwF RX0 17 0 1 := by
  obtain ⟨C, T, N, h1, h2, h3, h4⟩ := fl_X0_17
  cases h1
  exact ⟨_, _, _, tyX0, rfl, h2, h3, h4, tyX0_ok, nmX0, rfl, rfl, rfl⟩
theorem kf_X0_20 : px_pwF RX0 20 0 2 := by
  obtain ⟨C, T, N, h1, h2, h3, h4⟩ := fl_X0_20
  cases h1
  exact ⟨_, _, _, tyX0, rfl, h2, h3, h4, tyX0_ok, nmX0, rfl, rfl, rfl⟩
theorem kf_X7_9 : px_pwF RX7 9 7 7 := by
  obtain ⟨C, T, N, h1, h2, h3, h4⟩ := fl_X7_9
  cases h1
  exact ⟨_, _, _, tyX7, rfl, h2, h3, h4, tyX7_ok, nmX7, rfl, rfl, rfl⟩
theorem kf_X7_15 : px_pwF RX7 15 7 8 := by
  obtain ⟨C, T, N, h1, h2, h3, h4⟩ := fl_X7_15
  cases h1
  exact ⟨_, _, _, tyX7, rfl, h2, h3, h4, tyX7_ok, nmX7, rfl, rfl, rfl⟩
theorem kf_X7_19 : px_pwF RX7 19 7 9 := by
  obtain ⟨C, T, N, h1, h2, h3, h4⟩ := fl_X7_19
  cases h1
  exact ⟨_, _, _, tyX7, rfl, h2, h3, h4, tyX7_ok, nmX7, rfl, rfl, rfl⟩
theorem kf_X7_22 : px_pwF RX7 22 7 10 := by
  obtain ⟨C, T, N, h1, h2, h3, h4⟩ := fl_X7_22
  cases h1
  exact ⟨_, _, _, tyX7, rfl, h2, h3, h4, tyX7_ok, nmX7, rfl, rfl, rfl⟩
theorem kf_X7_25 : px_pwF RX7 25 7 11 := by
  obtain ⟨C, T, N, h1, h2, h3, h4⟩ := fl_X7_25
  cases h1
  exact ⟨_, _, _, tyX7, rfl, h2, h3, h4, tyX7_ok, nmX7, rfl, rfl, rfl⟩
theorem kf_X7_28 : px_pwF RX7 28 7 12 := by
  obtain ⟨C, T, N, h1, h2, h3, h4⟩ := fl_X7_28
  cases h1
  exact ⟨_, _, _, tyX7, rfl, h2, h3, h4, tyX7_ok, nmX7, rfl, rfl, rfl⟩
theorem kf_X7_31 : px_pwF RX7 31 7 13 := by
  obtain ⟨C, T, N, h1, h2, h3, h4⟩ := fl_X7_31
  cases h1
  exact ⟨_, _, _, tyX7, rfl, h2, h3, h4, tyX7_ok, nmX7, rfl, rfl, rfl⟩
theorem kf_X7_34 : px_pwF RX7 34 7 14 := by
  obtain ⟨C, T, N, h1, h2, h3, h4⟩ := fl_X7_34
  cases h1
  exact ⟨_, _, _, tyX7, rfl, h2, h3, h4, tyX7_ok, nmX7, rfl, rfl, rfl⟩
theorem kf_X7_37 : px_pwF RX7 37 7 15 := by
  obtain ⟨C, T, N, h1, h2, h3, h4⟩ := fl_X7_37
  cases h1
  exact ⟨_, _, _, tyX7, rfl, h2, h3, h4, tyX7_ok, nmX7, rfl, rfl, rfl⟩
theorem kf_X7_40 : px_pwF RX7 40 7 16 := by
  obtain ⟨C, T, N, h1, h2, h3, h4⟩ := fl_X7_40
  cases h1
  exact ⟨_, _, _, tyX7, rfl, h2, h3, h4, tyX7_ok, nmX7, rfl, rfl, rfl⟩
theorem kf_X7_46 : px_pwF RX7 46 7 17 := by
  obtain ⟨C, T, N, h1, h2, h3, h4⟩ := fl_X7_46
  cases h1
  exact ⟨_, _, _, tyX7, rfl, h2, h3, h4, tyX7_ok, nmX7, rfl, rfl, rfl⟩
theorem kf_X2_9 : px_pwF RX2 9 2 4 := by
  obtain ⟨C, T, N, h1, h2, h3, h4⟩ := fl_X2_9
  cases h1
  exact ⟨_, _, _, tyX2, rfl, h2, h3, h4, tyX2_ok, nmX2, rfl, rfl, rfl⟩
theorem kf_X2_15 : px_pwF RX2 15 2 5 := by
  obtain ⟨C, T, N, h1, h2, h3, h4⟩ := fl_X2_15
  cases h1
  exact ⟨_, _, _, tyX2, rfl, h2, h3, h4, tyX2_ok, nmX2, rfl, rfl, rfl⟩
theorem kf_X2_21 : px_pwF RX2 21 2 7 := by
  obtain ⟨C, T, N, h1, h2, h3, h4⟩ := fl_X2_21
  cases h1
  exact ⟨_, _, _, tyX2, rfl, h2, h3, h4, tyX2_ok, nmX2, rfl, rfl, rfl⟩
theorem kf_X2_25 : px_pwF RX2 25 2 8 := by
  obtain ⟨C, T, N, h1, h2, h3, h4⟩ := fl_X2_25
  cases h1
  exact ⟨_, _, _, tyX2, rfl, h2, h3, h4, tyX2_ok, nmX2, rfl, rfl, rfl⟩
theorem kf_X2_33 : px_pwF RX2 33 2 9 := by
  obtain ⟨C, T, N, h1, h2, h3, h4⟩ := fl_X2_33
  cases h1
  exact ⟨_, _, _, tyX2, rfl, h2, h3, h4, tyX2_ok, nmX2, rfl, rfl, rfl⟩
theorem kf_X2_37 : px_pwF RX2 37 2 10 := by
  obtain ⟨C, T, N, h1, h2, h3, h4⟩ := fl_X2_37
  cases h1
  exact ⟨_, _, _, tyX2, rfl, h2, h3, h4, tyX2_ok, nmX2, rfl, rfl, rfl⟩
theorem kf_X2_40 : px_pwF RX2 40 2 11 := by
  obtain ⟨C, T, N, h1, h2, h3, h4⟩ := fl_X2_40
  cases h1
  exact ⟨_, _, _, tyX2, rfl, h2, h3, h4, tyX2_ok, nmX2, rfl, rfl, rfl⟩
theorem kf_X2_43 : px_pwF RX2 43 2 12 := by
  obtain ⟨C, T, N, h1, h2, h3, h4⟩ := fl_X2_43
  cases h1
  exact ⟨_, _, _, tyX2, rfl, h2, h3, h4, tyX2_ok, nmX2, rfl, rfl, rfl⟩
theorem kf_X2_46 : px_pwF RX2 46 2 13 := by
  obtain ⟨C, T, N, h1, h2, h3, h4⟩ := fl_X2_46
  cases h1
  exact ⟨_, _, _, tyX2, rfl, h2, h3, h4, tyX2_ok, nmX2, rfl, rfl, rfl⟩
theorem kf_X2_49 : px_pwF RX2 49 2 6 := by
  obtain ⟨C, T, N, h1, h2, h3, h4⟩ := fl_X2_49
  cases h1
  exact ⟨_, _, _, tyX2, rfl, h2, h3, h4, tyX2_ok, nmX2, rfl, rfl, rfl⟩
theorem kf_X5_11 : px_pwF RX5 11 5 1 := by
  obtain ⟨C, T, N, h1, h2, h3, h4⟩ := fl_X5_11
  cases h1
  exact ⟨_, _, _, tyX5, rfl, h2, h3, h4, tyX5_ok, nmX5, rfl, rfl, rfl⟩
theorem kf_X5_15 : px_pwF RX5 15 5 3 := by
  obtain ⟨C, T, N, h1, h2, h3, h4⟩ := fl_X5_15
  cases h1
  exact ⟨_, _, _, tyX5, rfl, h2, h3, h4, tyX5_ok, nmX5, rfl, rfl, rfl⟩
theorem kf_X5_18 : px_pwF RX5 18 5 4 := by
  obtain ⟨C, T, N, h1, h2, h3, h4⟩ := fl_X5_18
  cases h1
  exact ⟨_, _, _, tyX5, rfl, h2, h3, h4, tyX5_ok, nmX5, rfl, rfl, rfl⟩
theorem kf_X5_21 : px_pwF RX5 21 5 5 := by
  obtain ⟨C, T, N, h1, h2, h3, h4⟩ := fl_X5_21
  cases h1
  exact ⟨_, _, _, tyX5, rfl, h2, h3, h4, tyX5_ok, nmX5, rfl, rfl, rfl⟩
theorem kf_X5_27 : px_pwF RX5 27 5 6 := by
  obtain ⟨C, T, N, h1, h2, h3, h4⟩ := fl_X5_27
  cases h1
  exact ⟨_, _, _, tyX5, rfl, h2, h3, h4, tyX5_ok, nmX5, rfl, rfl, rfl⟩
theorem kf_X5_31 : px_pwF RX5 31 5 7 := by
  obtain ⟨C, T, N, h1, h2, h3, h4⟩ := fl_X5_31
  cases h1
  exact ⟨_, _, _, tyX5, rfl, h2, h3, h4, tyX5_ok, nmX5, rfl, rfl, rfl⟩
theorem kf_X4_11 : px_pwF RX4 11 4 1 := by
  obtain ⟨C, T, N, h1, h2, h3, h4⟩ := fl_X4_11
  cases h1
  exact ⟨_, _, _, tyX4, rfl, h2, h3, h4, tyX4_ok, nmX4, rfl, rfl, rfl⟩
theorem kf_X3_15 : px_pwF RX3 15 3 2 := by
  obtain ⟨C, T, N, h1, h2, h3, h4⟩ := fl_X3_15
  cases h1
  exact ⟨_, _, _, tyX3, rfl, h2, h3, h4, tyX3_ok, nmX3, rfl, rfl, rfl⟩
theorem kf_X3_19 : px_pwF RX3 19 3 3 := by
  obtain ⟨C, T, N, h1, h2, h3, h4⟩ := fl_X3_19
  cases h1
  exact ⟨_, _, _, tyX3, rfl, h2, h3, h4, tyX3_ok, nmX3, rfl, rfl, rfl⟩
theorem kf_X3_23 : px_pwF RX3 23 3 4 := by
  obtain ⟨C, T, N, h1, h2, h3, h4⟩ := fl_X3_23
  cases h1
  exact ⟨_, _, _, tyX3, rfl, h2, h3, h4, tyX3_ok, nmX3, rfl, rfl, rfl⟩
theorem kf_X3_27 : px_pwF RX3 27 3 5 := by
  obtain ⟨C, T, N, h1, h2, h3, h4⟩ := fl_X3_27
  cases h1
  exact ⟨_, _, _, tyX3, rfl, h2, h3, h4, tyX3_ok, nmX3, rfl, rfl, rfl⟩
theorem kf_X3_30 : px_pwF RX3 30 3 6 := by
  obtain ⟨C, T, N, h1, h2, h3, h4⟩ := fl_X3_30
  cases h1
  exact ⟨_, _, _, tyX3, rfl, h2, h3, h4, tyX3_ok, nmX3, rfl, rfl, rfl⟩
theorem kf_X8_22 : px_pwF RX8 22 8 2 := by
  obtain ⟨C, T, N, h1, h2, h3, h4⟩ := fl_X8_22
  cases h1
  exact ⟨_, _, _, tyX8, rfl, h2, h3, h4, tyX8_ok, nmX8, rfl, rfl, rfl⟩
theorem kf_X8_31 : px_pwF RX8 31 8 3 := by
  obtain ⟨C, T, N, h1, h2, h3, h4⟩ := fl_X8_31
  cases h1
  exact ⟨_, _, _, tyX8, rfl, h2, h3, h4, tyX8_ok, nmX8, rfl, rfl, rfl⟩
theorem kf_X8_40 : px_pwF RX8 40 8 4 := by
  obtain ⟨C, T, N, h1, h2, h3, h4⟩ := fl_X8_40
  cases h1
  exact ⟨_, _, _, tyX8, rfl, h2, h3, h4, tyX8_ok, nmX8, rfl, rfl, rfl⟩
theorem kf_X8_47 : px_pwF RX8 47 8 5 := by
  obtain ⟨C, T, N, h1, h2, h3, h4⟩ := fl_X8_47
  cases h1
  exact ⟨_, _, _, tyX8, rfl, h2, h3, h4, tyX8_ok, nmX8, rfl, rfl, rfl⟩
theorem kf_X8_54 : px_pwF RX8 54 8 6 := by
  obtain ⟨C, T, N, h1, h2, h3, h4⟩ := fl_X8_54
  cases h1
  exact ⟨_, _, _, tyX8, rfl, h2, h3, h4, tyX8_ok, nmX8, rfl, rfl, rfl⟩
theorem kf_X8_58 : px_pwF RX8 58 8 7 := by
  obtain ⟨C, T, N, h1, h2, h3, h4⟩ := fl_X8_58
  cases h1
  exact ⟨_, _, _, tyX8, rfl, h2, h3, h4, tyX8_ok, nmX8, rfl, rfl, rfl⟩
theorem kf_X8_66 : px_pwF RX8 66 8 8 := by
  obtain ⟨C, T, N, h1, h2, h3, h4⟩ := fl_X8_66
  cases h1
  exact ⟨_, _, _, tyX8, rfl, h2, h3, h4, tyX8_ok, nmX8, rfl, rfl, rfl⟩
theorem kf_X8_70 : px_pwF RX8 70 8 9 := by
  obtain ⟨C, T, N, h1, h2, h3, h4⟩ := fl_X8_70
  cases h1
  exact ⟨_, _, _, tyX8, rfl, h2, h3, h4, tyX8_ok, nmX8, rfl, rfl, rfl⟩
theorem kf_X1_9 : px_pwF RX1 9 1 5 := by
  obtain ⟨C, T, N, h1, h2, h3, h4⟩ := fl_X1_9
  cases h1
  exact ⟨_, _, _, tyX1, rfl, h2, h3, h4, tyX1_ok, nmX1, rfl, rfl, rfl⟩
theorem kf_X1_15 : px_pwF RX1 15 1 6 := by
  obtain ⟨C, T, N, h1, h2, h3, h4⟩ := fl_X1_15
  cases h1
  exact ⟨_, _, _, tyX1, rfl, h2, h3, h4, tyX1_ok, nmX1, rfl, rfl, rfl⟩
theorem kf_X1_18 : px_pwF RX1 18 1 7 := by
  obtain ⟨C, T, N, h1, h2, h3, h4⟩ := fl_X1_18
  cases h1
  exact ⟨_, _, _, tyX1, rfl, h2, h3, h4, tyX1_ok, nmX1, rfl, rfl, rfl⟩
theorem kf_X1_21 : px_pwF RX1 21 1 8 := by
  obtain ⟨C, T, N, h1, h2, h3, h4⟩ := fl_X1_21
  cases h1
  exact ⟨_, _, _, tyX1, rfl, h2, h3, h4, tyX1_ok, nmX1, rfl, rfl, rfl⟩
theorem kf_X6_17 : px_pwF RX6 17 6 0 := by
  obtain ⟨C, T, N, h1, h2, h3, h4⟩ := fl_X6_17
  cases h1
  exact ⟨_, _, _, tyX6, rfl, h2, h3, h4, tyX6_ok, nmX6, rfl, rfl, rfl⟩
theorem kf_X9_13 : px_pwF RX9 13 9 1 := by
  obtain ⟨C, T, N, h1, h2, h3, h4⟩ := fl_X9_13
  cases h1
  exact ⟨_, _, _, tyX9, rfl, h2, h3, h4, tyX9_ok, nmX9, rfl, rfl, rfl⟩
theorem kf_X9_17 : px_pwF RX9 17 9 3 := by
  obtain ⟨C, T, N, h1, h2, h3, h4⟩ := fl_X9_17
  cases h1
  exact ⟨_, _, _, tyX9, rfl, h2, h3, h4, tyX9_ok, nmX9, rfl, rfl, rfl⟩
theorem kf_X9_20 : px_pwF RX9 20 9 5 := by
  obtain ⟨C, T, N, h1, h2, h3, h4⟩ := fl_X9_20
  cases h1
  exact ⟨_, _, _, tyX9, rfl, h2, h3, h4, tyX9_ok, nmX9, rfl, rfl, rfl⟩
theorem kf_X9_24 : px_pwF RX9 24 9 6 := by
  obtain ⟨C, T, N, h1, h2, h3, h4⟩ := fl_X9_24
  cases h1
  exact ⟨_, _, _, tyX9, rfl, h2, h3, h4, tyX9_ok, nmX9, rfl, rfl, rfl⟩
theorem kf_X9_27 : px_pwF RX9 27 9 7 := by
  obtain ⟨C, T, N, h1, h2, h3, h4⟩ := fl_X9_27
  cases h1
  exact ⟨_, _, _, tyX9, rfl, h2, h3, h4, tyX9_ok, nmX9, rfl, rfl, rfl⟩
theorem kf_X9_30 : px_pwF RX9 30 9 8 := by
  obtain ⟨C, T, N, h1, h2, h3, h4⟩ := fl_X9_30
  cases h1
  exact ⟨_, _, _, tyX9, rfl, h2, h3, h4, tyX9_ok, nmX9, rfl, rfl, rfl⟩
theorem kf_X9_34 : px_pwF RX9 34 9 9 := by
  obtain ⟨C, T, N, h1, h2, h3, h4⟩ := fl_X9_34
  cases h1
  exact ⟨_, _, _, tyX9, rfl, h2, h3, h4, tyX9_ok, nmX9, rfl, rfl, rfl⟩
theorem kf_X9_40 : px_pwF RX9 40 9 21 := by
  obtain ⟨C, T, N, h1, h2, h3, h4⟩ := fl_X9_40
  cases h1
  exact ⟨_, _, _, tyX9, rfl, h2, h3, h4, tyX9_ok, nmX9, rfl, rfl, rfl⟩
theorem kf_X9_43 : px_pwF RX9 43 9 22 := by
  obtain ⟨C, T, N, h1, h2, h3, h4⟩ := fl_X9_43
  cases h1
  exact ⟨_, _, _, tyX9, rfl, h2, h3, h4, tyX9_ok, nmX9, rfl, rfl, rfl⟩
theorem kf_X9_46 : px_pwF RX9 46 9 23 := by
  obtain ⟨C, T, N, h1, h2, h3, h4⟩ := fl_X9_46
  cases h1
  exact ⟨_, _, _, tyX9, rfl, h2, h3, h4, tyX9_ok, nmX9, rfl, rfl, rfl⟩
theorem kf_X9_49 : px_pwF RX9 49 9 24 := by
  obtain ⟨C, T, N, h1, h2, h3, h4⟩ := fl_X9_49
  cases h1
  exact ⟨_, _, _, tyX9, rfl, h2, h3, h4, tyX9_ok, nmX9, rfl, rfl, rfl⟩
theorem kf_X9_52 : px_pwF RX9 52 9 25 := by
  obtain ⟨C, T, N, h1, h2, h3, h4⟩ := fl_X9_52
  cases h1
  exact ⟨_, _, _, tyX9, rfl, h2, h3, h4, tyX9_ok, nmX9, rfl, rfl, rfl⟩
theorem kf_X9_55 : px_pwF RX9 55 9 26 := by
  obtain ⟨C, T, N, h1, h2, h3, h4⟩ := fl_X9_55
  cases h1
  exact ⟨_, _, _, tyX9, rfl, h2, h3, h4, tyX9_ok, nmX9, rfl, rfl, rfl⟩
theorem kf_X9_58 : px_pwF RX9 58 9 27 := by
  obtain ⟨C, T, N, h1, h2, h3, h4⟩ := fl_X9_58
  cases h1
  exact ⟨_, _, _, tyX9, rfl, h2, h3, h4, tyX9_ok, nmX9, rfl, rfl, rfl⟩
theorem kf_X9_61 : px_pwF RX9 61 9 28 := by
  obtain ⟨C, T, N, h1, h2, h3, h4⟩ := fl_X9_61
  cases h1
  exact ⟨_, _, _, tyX9, rfl, h2, h3, h4, tyX9_ok, nmX9, rfl, rfl, rfl⟩
theorem kf_X9_64 : px_pwF RX9 64 9 29 := by
  obtain ⟨C, T, N, h1, h2, h3, h4⟩ := fl_X9_64
  cases h1
  exact ⟨_, _, _, tyX9, rfl, h2, h3, h4, tyX9_ok, nmX9, rfl, rfl, rfl⟩
theorem kf_X9_67 : px_pwF RX9 67 9 30 := by
  obtain ⟨C, T, N, h1, h2, h3, h4⟩ := fl_X9_67
  cases h1
  exact ⟨_, _, _, tyX9, rfl, h2, h3, h4, tyX9_ok, nmX9, rfl, rfl, rfl⟩
theorem kf_X9_70 : px_pwF RX9 70 9 31 := by
  obtain ⟨C, T, N, h1, h2, h3, h4⟩ := fl_X9_70
  cases h1
  exact ⟨_, _, _, tyX9, rfl, h2, h3, h4, tyX9_ok, nmX9, rfl, rfl, rfl⟩
theorem kf_X9_73 : px_pwF RX9 73 9 32 := by
  obtain ⟨C, T, N, h1, h2, h3, h4⟩ := fl_X9_73
  cases h1
  exact ⟨_, _, _, tyX9, rfl, h2, h3, h4, tyX9_ok, nmX9, rfl, rfl, rfl⟩
theorem kf_X9_76 : px_pwF RX9 76 9 33 := by
  obtain ⟨C, T, N, h1, h2, h3, h4⟩ := fl_X9_76
  cases h1
  exact ⟨_, _, _, tyX9, rfl, h2, h3, h4, tyX9_ok, nmX9, rfl, rfl, rfl⟩
theorem kf_X9_79 : px_pwF RX9 79 9 34 := by
  obtain ⟨C, T, N, h1, h2, h3, h4⟩ := fl_X9_79
  cases h1
  exact ⟨_, _, _, tyX9, rfl, h2, h3, h4, tyX9_ok, nmX9, rfl, rfl, rfl⟩
theorem kf_X9_82 : px_pwF RX9 82 9 35 := by
  obtain ⟨C, T, N, h1, h2, h3, h4⟩ := fl_X9_82
  cases h1
  exact ⟨_, _, _, tyX9, rfl, h2, h3, h4, tyX9_ok, nmX9, rfl, rfl, rfl⟩
theorem kf_X9_85 : px_pwF RX9 85 9 36 := by
  obtain ⟨C, T, N, h1, h2, h3, h4⟩ := fl_X9_85
  cases h1
  exact ⟨_, _, _, tyX9, rfl, h2, h3, h4, tyX9_ok, nmX9, rfl, rfl, rfl⟩
theorem kf_X9_88 : px_pwF RX9 88 9 37 := by
  obtain ⟨C, T, N, h1, h2, h3, h4⟩ := fl_X9_88
  cases h1
  exact ⟨_, _, _, tyX9, rfl, h2, h3, h4, tyX9_ok, nmX9, rfl, rfl, rfl⟩
theorem kf_X9_91 : px_pwF RX9 91 9 38 := by
  obtain ⟨C, T, N, h1, h2, h3, h4⟩ := fl_X9_91
  cases h1
  exact ⟨_, _, _, tyX9, rfl, h2, h3, h4, tyX9_ok, nmX9, rfl, rfl, rfl⟩
theorem kf_X9_94 : px_pwF RX9 94 9 39 := by
  obtain ⟨C, T, N, h1, h2, h3, h4⟩ := fl_X9_94
  cases h1
  exact ⟨_, _, _, tyX9, rfl, h2, h3, h4, tyX9_ok, nmX9, rfl, rfl, rfl⟩
theorem kf_X9_97 : px_pwF RX9 97 9 41 := by
  obtain ⟨C, T, N, h1, h2, h3, h4⟩ := fl_X9_97
  cases h1
  exact ⟨_, _, _, tyX9, rfl, h2, h3, h4, tyX9_ok, nmX9, rfl, rfl, rfl⟩
theorem kf_X9_101 : px_pwF RX9 101 9 42 := by
  obtain ⟨C, T, N, h1, h2, h3, h4⟩ := fl_X9_101
  cases h1
  exact ⟨_, _, _, tyX9, rfl, h2, h3, h4, tyX9_ok, nmX9, rfl, rfl, rfl⟩
theorem kf_X9_104 : px_pwF RX9 104 9 43 := by
  obtain ⟨C, T, N, h1, h2, h3, h4⟩ := fl_X9_104
  cases h1
  exact ⟨_, _, _, tyX9, rfl, h2, h3, h4, tyX9_ok, nmX9, rfl, rfl, rfl⟩
theorem kf_X9_107 : px_pwF RX9 107 9 44 := by
  obtain ⟨C, T, N, h1, h2, h3, h4⟩ := fl_X9_107
  cases h1
  exact ⟨_, _, _, tyX9, rfl, h2, h3, h4, tyX9_ok, nmX9, rfl, rfl, rfl⟩
theorem kf_X9_110 : px_pwF RX9 110 9 45 := by
  obtain ⟨C, T, N, h1, h2, h3, h4⟩ := fl_X9_110
  cases h1
  exact ⟨_, _, _, tyX9, rfl, h2, h3, h4, tyX9_ok, nmX9, rfl, rfl, rfl⟩
theorem kf_X9_113 : px_pwF RX9 113 9 47 := by
  obtain ⟨C, T, N, h1, h2, h3, h4⟩ := fl_X9_113
  cases h1
  exact ⟨_, _, _, tyX9, rfl, h2, h3, h4, tyX9_ok, nmX9, rfl, rfl, rfl⟩
theorem kf_X9_116 : px_pwF RX9 116 9 48 := by
  obtain ⟨C, T, N, h1, h2, h3, h4⟩ := fl_X9_116
  cases h1
  exact ⟨_, _, _, tyX9, rfl, h2, h3, h4, tyX9_ok, nmX9, rfl, rfl, rfl⟩
theorem kf_X9_119 : px_pwF RX9 119 9 49 := by
  obtain ⟨C, T, N, h1, h2, h3, h4⟩ := fl_X9_119
  cases h1
  exact ⟨_, _, _, tyX9, rfl, h2, h3, h4, tyX9_ok, nmX9, rfl, rfl, rfl⟩
theorem kf_X9_122 : px_pwF RX9 122 9 51 := by
  obtain ⟨C, T, N, h1, h2, h3, h4⟩ := fl_X9_122
  cases h1
  exact ⟨_, _, _, tyX9, rfl, h2, h3, h4, tyX9_ok, nmX9, rfl, rfl, rfl⟩
theorem kf_X9_125 : px_pwF RX9 125 9 52 := by
  obtain ⟨C, T, N, h1, h2, h3, h4⟩ := fl_X9_125
  cases h1
  exact ⟨_, _, _, tyX9, rfl, h2, h3, h4, tyX9_ok, nmX9, rfl, rfl, rfl⟩
theorem kf_X9_128 : px_pwF RX9 128 9 54 := by
  obtain ⟨C, T, N, h1, h2, h3, h4⟩ := fl_X9_128
  cases h1
  exact ⟨_, _, _, tyX9, rfl, h2, h3, h4, tyX9_ok, nmX9, rfl, rfl, rfl⟩
theorem kf_X9_131 : px_pwF RX9 131 9 55 := by
  obtain ⟨C, T, N, h1, h2, h3, h4⟩ := fl_X9_131
  cases h1
  exact ⟨_, _, _, tyX9, rfl, h2, h3, h4, tyX9_ok, nmX9, rfl, rfl, rfl⟩
theorem kf_X9_134 : px_pwF RX9 134 9 58 := by
  obtain ⟨C, T, N, h1, h2, h3, h4⟩ := fl_X9_134
  cases h1
  exact ⟨_, _, _, tyX9, rfl, h2, h3, h4, tyX9_ok, nmX9, rfl, rfl, rfl⟩
theorem kf_X9_137 : px_pwF RX9 137 9 59 := by
  obtain ⟨C, T, N, h1, h2, h3, h4⟩ := fl_X9_137
  cases h1
  exact ⟨_, _, _, tyX9, rfl, h2, h3, h4, tyX9_ok, nmX9, rfl, rfl, rfl⟩
theorem kf_X9_140 : px_pwF RX9 140 9 60 := by
  obtain ⟨C, T, N, h1, h2, h3, h4⟩ := fl_X9_140
  cases h1
  exact ⟨_, _, _, tyX9, rfl, h2, h3, h4, tyX9_ok, nmX9, rfl, rfl, rfl⟩
theorem kf_X9_143 : px_pwF RX9 143 9 62 := by
  obtain ⟨C, T, N, h1, h2, h3, h4⟩ := fl_X9_143
  cases h1
  exact ⟨_, _, _, tyX9, rfl, h2, h3, h4, tyX9_ok, nmX9, rfl, rfl, rfl⟩
theorem kf_X9_146 : px_pwF RX9 146 9 65 := by
  obtain ⟨C, T, N, h1, h2, h3, h4⟩ := fl_X9_146
  cases h1
  exact ⟨_, _, _, tyX9, rfl, h2, h3, h4, tyX9_ok, nmX9, rfl, rfl, rfl⟩
theorem kf_X9_149 : px_pwF RX9 149 9 70 := by
  obtain ⟨C, T, N, h1, h2, h3, h4⟩ := fl_X9_149
  cases h1
  exact ⟨_, _, _, tyX9, rfl, h2, h3, h4, tyX9_ok, nmX9, rfl, rfl, rfl⟩
theorem kf_X9_152 : px_pwF RX9 152 9 71 := by
  obtain ⟨C, T, N, h1, h2, h3, h4⟩ := fl_X9_152
  cases h1
  exact ⟨_, _, _, tyX9, rfl, h2, h3, h4, tyX9_ok, nmX9, rfl, rfl, rfl⟩
theorem kf_X9_155 : px_pwF RX9 155 9 72 := by
  obtain ⟨C, T, N, h1, h2, h3, h4⟩ := fl_X9_155
  cases h1
  exact ⟨_, _, _, tyX9, rfl, h2, h3, h4, tyX9_ok, nmX9, rfl, rfl, rfl⟩
theorem kf_X9_158 : px_pwF RX9 158 9 73 := by
  obtain ⟨C, T, N, h1, h2, h3, h4⟩ := fl_X9_158
  cases h1
  exact ⟨_, _, _, tyX9, rfl, h2, h3, h4, tyX9_ok, nmX9, rfl, rfl, rfl⟩
theorem kf_X9_161 : px_pwF RX9 161 9 74 := by
  obtain ⟨C, T, N, h1, h2, h3, h4⟩ := fl_X9_161
  cases h1
  exact ⟨_, _, _, tyX9, rfl, h2, h3, h4, tyX9_ok, nmX9, rfl, rfl, rfl⟩
set_option maxRecDepth 100000 in
theorem ka_int : Cond.arrayClass (newarray.typeOf .int) ∈ px_tbl := px_mem1 53 (by decide +kernel) (by decide +kernel)
set_option maxRecDepth 100000 in
theorem ka_long : Cond.arrayClass (newarray.typeOf .long) ∈ px_tbl := px_mem1 52 (by decide +kernel) (by decide +kernel)
set_option maxRecDepth 100000 in
theorem ka_byte : Cond.arrayClass (newarray.typeOf .byte) ∈ px_tbl := px_mem2 34 (by decide +kernel) (by decide +kernel)
set_option maxRecDepth 100000 in
theorem ka_boolean : Cond.arrayClass (newarray.typeOf .boolean) ∈ px_tbl := px_mem6 151 (by decide +kernel) (by decide +kernel)
