/-! THE CLASS ITSELF: its world, its smallest methods -/
def sW (bv : Nat → Int32) (tv : Nat → Int32) (ta : Nat → Nat → Int32) (tb : Nat → Nat → Int64) (uv : Nat → Int32) (ua : Nat → Nat → Int32) (ub : Nat → Nat → Int64) (rv : Nat → Int32) (ra : Nat → Nat → Int32) (rb : Nat → Nat → Int64) (rt : Value) (se : Nat → Int32) (pv : Nat → Int32) (pa : Nat → Nat → Int32) (gv : Nat → Int32) (ga : Nat → Nat → Int32) (ov : Nat → Int32) (oa : Nat → Nat → Int32) (qv : Nat → Int32) (qa : Nat → Nat → Int32) (hv : Nat → Int32) (ha : Nat → Nat → Int32) (nv : Nat → Int32) (na : Nat → Nat → Int32) (yv : Nat → Int32) (ya : Nat → Nat → Int32) (cf : Nat → Int32) (cs : Nat → Int32) : px_W := [.inr (8, [.ref 1, .ref 16, .ref 31, .ref 37, .ref 39, .ref 58, .ref 68, .ref 73, .ref 78, .ref 80, .int (bv 10), .int (bv 11), .int (bv 12)]), .inr (7, [.int (tv 0), .int (tv 1), .int (tv 2), .int (tv 3), .int (tv 4), .int (tv 5), .int (tv 6), .ref 2, .ref 3, .ref 4, .ref 5, .ref 6, .ref 7, .ref 8, .ref 9, .ref 10, .ref 11, .ref 12]), .inl (.long, 6, .inr (.inl (tb 7))), .inl (.int, 6, .inl (ta 8)), .inl (.int, 6, .inl (ta 9)), .inl (.int, 6, .inl (ta 10)), .inl (.int, 6, .inl (ta 11)), .inl (.int, 6, .inl (ta 12)), .inl (.long, 5, .inr (.inl (tb 13))), .inl (.int, 5, .inl (ta 14)), .inl (.int, 5, .inl (ta 15)), .inl (.int, 5, .inl (ta 16)), .inr (0, [.ref 13, .ref 14, .ref 15, .int (tv 20)]), .inl (.int, 404, .inl (ta 20)), .inl (.int, 3, .inl (ta 21)), .inl (.int, 32, .inl (ta 22)), .inr (7, [.int (uv 0), .int (uv 1), .int (uv 2), .int (uv 3), .int (uv 4), .int (uv 5), .int (uv 6), .ref 17, .ref 18, .ref 19, .ref 20, .ref 21, .ref 22, .ref 23, .ref 24, .ref 25, .ref 26, .ref 27]), .inl (.long, 6, .inr (.inl (ub 7))), .inl (.int, 6, .inl (ua 8)), .inl (.int, 6, .inl (ua 9)), .inl (.int, 6, .inl (ua 10)), .inl (.int, 6, .inl (ua 11)), .inl (.int, 6, .inl (ua 12)), .inl (.long, 5, .inr (.inl (ub 13))), .inl (.int, 5, .inl (ua 14)), .inl (.int, 5, .inl (ua 15)), .inl (.int, 5, .inl (ua 16)), .inr (0, [.ref 28, .ref 29, .ref 30, .int (uv 20)]), .inl (.int, 404, .inl (ua 20)), .inl (.int, 3, .inl (ua 21)), .inl (.int, 32, .inl (ua 22)), .inr (3, [.int (rv 0), .int (rv 1), .ref 32, .ref 33, .ref 34, .ref 35, .ref 36, .int (rv 7), .int (rv 8), .int (rv 9), .int (rv 10), .int (rv 11), rt]), .inl (.byte, 2000, .inl (ra 2)), .inl (.long, 22, .inr (.inl (rb 3))), .inl (.int, 402, .inl (ra 4)), .inl (.int, 402, .inl (ra 5)), .inl (.long, 402, .inr (.inl (rb 6))), .inr (4, [.ref 1, .ref 38]), .inl (.int, 16, .inl se), .inr (2, [.int (pv 0), .int (pv 1), .int (pv 2), .int (pv 3), .ref 40, .ref 41, .ref 37, .ref 46, .ref 51, .ref 56, .ref 42, .ref 43, .ref 44, .ref 45, .int (pv 14)]), .inl (.int, 6, .inl (pa 4)), .inl (.int, 5, .inl (pa 5)), .inl (.int, 6, .inl (pa 10)), .inl (.int, 5, .inl (pa 11)), .inl (.int, 320, .inl (pa 12)), .inl (.int, 5, .inl (pa 13)), .inr (1, [.int (gv 0), .int (gv 1), .int (gv 2), .int (gv 3), .int (gv 4), .ref 47, .ref 48, .ref 49, .ref 50]), .inl (.int, 6, .inl (ga 5)), .inl (.int, 6, .inl (ga 6)), .inl (.int, 5, .inl (ga 7)), .inl (.int, 5, .inl (ga 8)), .inr (1, [.int (ov 0), .int (ov 1), .int (ov 2), .int (ov 3), .int (ov 4), .ref 52, .ref 53, .ref 54, .ref 55]), .inl (.int, 6, .inl (oa 5)), .inl (.int, 6, .inl (oa 6)), .inl (.int, 5, .inl (oa 7)), .inl (.int, 5, .inl (oa 8)), .inr (6, [.ref 57]), .inl (.int, 162, .inl (pa 9)), .inr (5, [.int (qv 0), .ref 59, .int (qv 2), .ref 60, .ref 61, .ref 62, .ref 63, .ref 37]), .inl (.int, 64, .inl (qa 1)), .inl (.int, 20, .inl (qa 3)), .inl (.int, 20, .inl (qa 4)), .inl (.int, 64, .inl (qa 5)), .inr (1, [.int (hv 0), .int (hv 1), .int (hv 2), .int (hv 3), .int (hv 4), .ref 64, .ref 65, .ref 66, .ref 67]), .inl (.int, 6, .inl (ha 5)), .inl (.int, 6, .inl (ha 6)), .inl (.int, 5, .inl (ha 7)), .inl (.int, 5, .inl (ha 8)), .inr (1, [.int (nv 0), .int (nv 1), .int (nv 2), .int (nv 3), .int (nv 4), .ref 69, .ref 70, .ref 71, .ref 72]), .inl (.int, 6, .inl (na 5)), .inl (.int, 6, .inl (na 6)), .inl (.int, 5, .inl (na 7)), .inl (.int, 5, .inl (na 8)), .inr (1, [.int (yv 0), .int (yv 1), .int (yv 2), .int (yv 3), .int (yv 4), .ref 74, .ref 75, .ref 76, .ref 77]), .inl (.int, 6, .inl (ya 5)), .inl (.int, 6, .inl (ya 6)), .inl (.int, 5, .inl (ya 7)), .inl (.int, 5, .inl (ya 8)), .inr (6, [.ref 79]), .inl (.int, 1080, .inl cf), .inr (6, [.ref 81]), .inl (.int, 81, .inl cs)]
set_option maxHeartbeats 1000000 in
theorem cs_isSpan (d : Nat) (bv : Nat → Int32) (tv : Nat → Int32) (ta : Nat → Nat → Int32) (tb : Nat → Nat → Int64) (uv : Nat → Int32) (ua : Nat → Nat → Int32) (ub : Nat → Nat → Int64) (rv : Nat → Int32) (ra : Nat → Nat → Int32) (rb : Nat → Nat → Int64) (rt : Value) (se : Nat → Int32) (pv : Nat → Int32) (pa : Nat → Nat → Int32) (gv : Nat → Int32) (ga : Nat → Nat → Int32) (ov : Nat → Int32) (oa : Nat → Nat → Int32) (qv : Nat → Int32) (qa : Nat → Nat → Int32) (hv : Nat → Int32) (ha : Nat → Nat → Int32) (nv : Nat → Int32) (na : Nat → Nat → Int32) (yv : Nat → Int32) (ya : Nat → Nat → Int32) (cf : Nat → Int32) (cs : Nat → Int32) (x : Int32) : Con mX8_isSpan d [.ref 0, .int x] (sW bv tv ta tb uv ua ub rv ra rb rt se pv pa gv ga ov oa qv qa hv ha nv na yv ya cf cs) (fun r W' => W' = (sW bv tv ta tb uv ua ub rv ra rb rt se pv pa gv ga ov oa qv qa hv ha nv na yv ya cf cs) ∧ r = some (.int (if 0 ≤ x ∧ x < tv 0 then 1 else 0))) := by
  refine Con.of (by decide) (Nat.le_of_ble_eq_true rfl) ?_
  refine XG.blk tX8_isSpan_ok 0 1 (pc' := 1) (pl' := [some (.ref 0), some (.int x)]) (st' := [(.int x)]) (W1 := (sW bv tv ta tb uv ua ub rv ra rb rt se pv pa gv ga ov oa qv qa hv ha nv na yv ya cf cs)) (bs := []) rfl rfl rfl ?_
  refine XG.br eX8_isSpan_1 (P := x < 0) (r := []) rfl (tgt := 19) (by decide) (fun h1 => ?_) (fun h1 => ?_)
  · skip
    refine XG.blk tX8_isSpan_ok 9 1 (pc' := 20) (pl' := [some (.ref 0), some (.int x)]) (st' := [(.int (nI 0))]) (W1 := (sW bv tv ta tb uv ua ub rv ra rb rt se pv pa gv ga ov oa qv qa hv ha nv na yv ya cf cs)) (bs := []) rfl rfl rfl ?_
    refine XS.iret eX8_isSpan_20 rfl (by decide) ?_
    refine ⟨rfl, ?_⟩
    rw [if_neg (fun w => absurd w.1 (Int32.not_le.mpr h1))]; rfl
  · skip
    refine XG.blk tX8_isSpan_ok 2 4 (pc' := 12) (pl' := [some (.ref 0), some (.int x)]) (st' := [(.int (tv 0)), (.int x)]) (W1 := (sW bv tv ta tb uv ua ub rv ra rb rt se pv pa gv ga ov oa qv qa hv ha nv na yv ya cf cs)) (bs := []) rfl rfl rfl ?_
    refine XG.br eX8_isSpan_12 (P := (tv 0) ≤ x) (r := []) rfl (tgt := 19) (by decide) (fun h12 => ?_) (fun h12 => ?_)
    · skip
      refine XG.blk tX8_isSpan_ok 9 1 (pc' := 20) (pl' := [some (.ref 0), some (.int x)]) (st' := [(.int (nI 0))]) (W1 := (sW bv tv ta tb uv ua ub rv ra rb rt se pv pa gv ga ov oa qv qa hv ha nv na yv ya cf cs)) (bs := []) rfl rfl rfl ?_
      refine XS.iret eX8_isSpan_20 rfl (by decide) ?_
      refine ⟨rfl, ?_⟩
      rw [if_neg (fun w => absurd w.2 (Int32.not_lt.mpr h12))]; rfl
    · skip
      refine XG.blk tX8_isSpan_ok 7 1 (pc' := 16) (pl' := [some (.ref 0), some (.int x)]) (st' := [(.int (nI 1))]) (W1 := (sW bv tv ta tb uv ua ub rv ra rb rt se pv pa gv ga ov oa qv qa hv ha nv na yv ya cf cs)) (bs := []) rfl rfl rfl ?_
      refine XG.goto eX8_isSpan_16 (tgt := 20) (by decide) ?_
      refine XS.iret eX8_isSpan_20 rfl (by decide) ?_
      refine ⟨rfl, ?_⟩
      rw [if_pos ⟨Int32.not_lt.mp h1, Int32.not_le.mp h12⟩]; rfl
set_option maxHeartbeats 1000000 in
theorem cs_isSleeper (d : Nat) (bv : Nat → Int32) (tv : Nat → Int32) (ta : Nat → Nat → Int32) (tb : Nat → Nat → Int64) (uv : Nat → Int32) (ua : Nat → Nat → Int32) (ub : Nat → Nat → Int64) (rv : Nat → Int32) (ra : Nat → Nat → Int32) (rb : Nat → Nat → Int64) (rt : Value) (se : Nat → Int32) (pv : Nat → Int32) (pa : Nat → Nat → Int32) (gv : Nat → Int32) (ga : Nat → Nat → Int32) (ov : Nat → Int32) (oa : Nat → Nat → Int32) (qv : Nat → Int32) (qa : Nat → Nat → Int32) (hv : Nat → Int32) (ha : Nat → Nat → Int32) (nv : Nat → Int32) (na : Nat → Nat → Int32) (yv : Nat → Int32) (ya : Nat → Nat → Int32) (cf : Nat → Int32) (cs : Nat → Int32) (x : Int32) : Con mX8_isSleeper d [.ref 0, .int x] (sW bv tv ta tb uv ua ub rv ra rb rt se pv pa gv ga ov oa qv qa hv ha nv na yv ya cf cs) (fun r W' => W' = (sW bv tv ta tb uv ua ub rv ra rb rt se pv pa gv ga ov oa qv qa hv ha nv na yv ya cf cs) ∧ r = some (.int (if 0 ≤ x ∧ x < tv 1 then 1 else 0))) := by
  refine Con.of (by decide) (Nat.le_of_ble_eq_true rfl) ?_
  refine XG.blk tX8_isSleeper_ok 0 1 (pc' := 1) (pl' := [some (.ref 0), some (.int x)]) (st' := [(.int x)]) (W1 := (sW bv tv ta tb uv ua ub rv ra rb rt se pv pa gv ga ov oa qv qa hv ha nv na yv ya cf cs)) (bs := []) rfl rfl rfl ?_
  refine XG.br eX8_isSleeper_1 (P := x < 0) (r := []) rfl (tgt := 19) (by decide) (fun h1 => ?_) (fun h1 => ?_)
  · skip
    refine XG.blk tX8_isSleeper_ok 9 1 (pc' := 20) (pl' := [some (.ref 0), some (.int x)]) (st' := [(.int (nI 0))]) (W1 := (sW bv tv ta tb uv ua ub rv ra rb rt se pv pa gv ga ov oa qv qa hv ha nv na yv ya cf cs)) (bs := []) rfl rfl rfl ?_
    refine XS.iret eX8_isSleeper_20 rfl (by decide) ?_
    refine ⟨rfl, ?_⟩
    rw [if_neg (fun w => absurd w.1 (Int32.not_le.mpr h1))]; rfl
  · skip
    refine XG.blk tX8_isSleeper_ok 2 4 (pc' := 12) (pl' := [some (.ref 0), some (.int x)]) (st' := [(.int (tv 1)), (.int x)]) (W1 := (sW bv tv ta tb uv ua ub rv ra rb rt se pv pa gv ga ov oa qv qa hv ha nv na yv ya cf cs)) (bs := []) rfl rfl rfl ?_
    refine XG.br eX8_isSleeper_12 (P := (tv 1) ≤ x) (r := []) rfl (tgt := 19) (by decide) (fun h12 => ?_) (fun h12 => ?_)
    · skip
      refine XG.blk tX8_isSleeper_ok 9 1 (pc' := 20) (pl' := [some (.ref 0), some (.int x)]) (st' := [(.int (nI 0))]) (W1 := (sW bv tv ta tb uv ua ub rv ra rb rt se pv pa gv ga ov oa qv qa hv ha nv na yv ya cf cs)) (bs := []) rfl rfl rfl ?_
      refine XS.iret eX8_isSleeper_20 rfl (by decide) ?_
      refine ⟨rfl, ?_⟩
      rw [if_neg (fun w => absurd w.2 (Int32.not_lt.mpr h12))]; rfl
    · skip
      refine XG.blk tX8_isSleeper_ok 7 1 (pc' := 16) (pl' := [some (.ref 0), some (.int x)]) (st' := [(.int (nI 1))]) (W1 := (sW bv tv ta tb uv ua ub rv ra rb rt se pv pa gv ga ov oa qv qa hv ha nv na yv ya cf cs)) (bs := []) rfl rfl rfl ?_
      refine XG.goto eX8_isSleeper_16 (tgt := 20) (by decide) ?_
      refine XS.iret eX8_isSleeper_20 rfl (by decide) ?_
      refine ⟨rfl, ?_⟩
      rw [if_pos ⟨Int32.not_lt.mp h1, Int32.not_le.mp h12⟩]; rfl
set_option maxHeartbeats 1000000 in
theorem cs_isCrosser (d : Nat) (bv : Nat → Int32) (tv : Nat → Int32) (ta : Nat → Nat → Int32) (tb : Nat → Nat → Int64) (uv : Nat → Int32) (ua : Nat → Nat → Int32) (ub : Nat → Nat → Int64) (rv : Nat → Int32) (ra : Nat → Nat → Int32) (rb : Nat → Nat → Int64) (rt : Value) (se : Nat → Int32) (pv : Nat → Int32) (pa : Nat → Nat → Int32) (gv : Nat → Int32) (ga : Nat → Nat → Int32) (ov : Nat → Int32) (oa : Nat → Nat → Int32) (qv : Nat → Int32) (qa : Nat → Nat → Int32) (hv : Nat → Int32) (ha : Nat → Nat → Int32) (nv : Nat → Int32) (na : Nat → Nat → Int32) (yv : Nat → Int32) (ya : Nat → Nat → Int32) (cf : Nat → Int32) (cs : Nat → Int32) (x : Int32) : Con mX8_isCrosser d [.ref 0, .int x] (sW bv tv ta tb uv ua ub rv ra rb rt se pv pa gv ga ov oa qv qa hv ha nv na yv ya cf cs) (fun r W' => W' = (sW bv tv ta tb uv ua ub rv ra rb rt se pv pa gv ga ov oa qv qa hv ha nv na yv ya cf cs) ∧ r = some (.int (if 0 ≤ x ∧ x < tv 3 then 1 else 0))) := by
  refine Con.of (by decide) (Nat.le_of_ble_eq_true rfl) ?_
  refine XG.blk tX8_isCrosser_ok 0 1 (pc' := 1) (pl' := [some (.ref 0), some (.int x)]) (st' := [(.int x)]) (W1 := (sW bv tv ta tb uv ua ub rv ra rb rt se pv pa gv ga ov oa qv qa hv ha nv na yv ya cf cs)) (bs := []) rfl rfl rfl ?_
  refine XG.br eX8_isCrosser_1 (P := x < 0) (r := []) rfl (tgt := 19) (by decide) (fun h1 => ?_) (fun h1 => ?_)
  · skip
    refine XG.blk tX8_isCrosser_ok 9 1 (pc' := 20) (pl' := [some (.ref 0), some (.int x)]) (st' := [(.int (nI 0))]) (W1 := (sW bv tv ta tb uv ua ub rv ra rb rt se pv pa gv ga ov oa qv qa hv ha nv na yv ya cf cs)) (bs := []) rfl rfl rfl ?_
    refine XS.iret eX8_isCrosser_20 rfl (by decide) ?_
    refine ⟨rfl, ?_⟩
    rw [if_neg (fun w => absurd w.1 (Int32.not_le.mpr h1))]; rfl
  · skip
    refine XG.blk tX8_isCrosser_ok 2 4 (pc' := 12) (pl' := [some (.ref 0), some (.int x)]) (st' := [(.int (tv 3)), (.int x)]) (W1 := (sW bv tv ta tb uv ua ub rv ra rb rt se pv pa gv ga ov oa qv qa hv ha nv na yv ya cf cs)) (bs := []) rfl rfl rfl ?_
    refine XG.br eX8_isCrosser_12 (P := (tv 3) ≤ x) (r := []) rfl (tgt := 19) (by decide) (fun h12 => ?_) (fun h12 => ?_)
    · skip
      refine XG.blk tX8_isCrosser_ok 9 1 (pc' := 20) (pl' := [some (.ref 0), some (.int x)]) (st' := [(.int (nI 0))]) (W1 := (sW bv tv ta tb uv ua ub rv ra rb rt se pv pa gv ga ov oa qv qa hv ha nv na yv ya cf cs)) (bs := []) rfl rfl rfl ?_
      refine XS.iret eX8_isCrosser_20 rfl (by decide) ?_
      refine ⟨rfl, ?_⟩
      rw [if_neg (fun w => absurd w.2 (Int32.not_lt.mpr h12))]; rfl
    · skip
      refine XG.blk tX8_isCrosser_ok 7 1 (pc' := 16) (pl' := [some (.ref 0), some (.int x)]) (st' := [(.int (nI 1))]) (W1 := (sW bv tv ta tb uv ua ub rv ra rb rt se pv pa gv ga ov oa qv qa hv ha nv na yv ya cf cs)) (bs := []) rfl rfl rfl ?_
      refine XG.goto eX8_isCrosser_16 (tgt := 20) (by decide) ?_
      refine XS.iret eX8_isCrosser_20 rfl (by decide) ?_
      refine ⟨rfl, ?_⟩
      rw [if_pos ⟨Int32.not_lt.mp h1, Int32.not_le.mp h12⟩]; rfl
theorem cs_place (d : Nat) (bv : Nat → Int32) (tv : Nat → Int32) (ta : Nat → Nat → Int32) (tb : Nat → Nat → Int64) (uv : Nat → Int32) (ua : Nat → Nat → Int32) (ub : Nat → Nat → Int64) (rv : Nat → Int32) (ra : Nat → Nat → Int32) (rb : Nat → Nat → Int64) (rt : Value) (se : Nat → Int32) (pv : Nat → Int32) (pa : Nat → Nat → Int32) (gv : Nat → Int32) (ga : Nat → Nat → Int32) (ov : Nat → Int32) (oa : Nat → Nat → Int32) (qv : Nat → Int32) (qa : Nat → Nat → Int32) (hv : Nat → Int32) (ha : Nat → Nat → Int32) (nv : Nat → Int32) (na : Nat → Nat → Int32) (yv : Nat → Int32) (ya : Nat → Nat → Int32) (cf : Nat → Int32) (cs : Nat → Int32) : Con mX8_place d [.ref 0] (sW bv tv ta tb uv ua ub rv ra rb rt se pv pa gv ga ov oa qv qa hv ha nv na yv ya cf cs) (fun r W' => W' = (sW bv tv ta tb uv ua ub rv ra rb rt se pv pa gv ga ov oa qv qa hv ha nv na yv ya cf cs) ∧ r = some (.int (rv 1))) := by
  refine Con.of (by decide) (Nat.le_of_ble_eq_true rfl) ?_
  refine XG.blk tX8_place_ok 0 3 (pc' := 7) (pl' := [some (.ref 0)]) (st' := [(.int (rv 1))]) (W1 := (sW bv tv ta tb uv ua ub rv ra rb rt se pv pa gv ga ov oa qv qa hv ha nv na yv ya cf cs)) (bs := []) rfl rfl rfl ?_
  refine XS.iret eX8_place_7 rfl rfl ?_
  exact ⟨rfl, rfl⟩
