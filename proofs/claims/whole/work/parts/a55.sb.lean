/-! THE CLASS ITSELF: forget, back -/
theorem cs_forget (d : Nat) (bv : Nat → Int32) (tv : Nat → Int32) (ta : Nat → Nat → Int32) (tb : Nat → Nat → Int64) (uv : Nat → Int32) (ua : Nat → Nat → Int32) (ub : Nat → Nat → Int64) (rv : Nat → Int32) (ra : Nat → Nat → Int32) (rb : Nat → Nat → Int64) (rt : Value) (se : Nat → Int32) (pv : Nat → Int32) (pa : Nat → Nat → Int32) (gv : Nat → Int32) (ga : Nat → Nat → Int32) (ov : Nat → Int32) (oa : Nat → Nat → Int32) (qv : Nat → Int32) (qa : Nat → Nat → Int32) (hv : Nat → Int32) (ha : Nat → Nat → Int32) (nv : Nat → Int32) (na : Nat → Nat → Int32) (yv : Nat → Int32) (ya : Nat → Nat → Int32) (cf : Nat → Int32) (cs : Nat → Int32) : Con mX8_forget d [.ref 0] (sW bv tv ta tb uv ua ub rv ra rb rt se pv pa gv ga ov oa qv qa hv ha nv na yv ya cf cs) (fun r W' => W' = (sW bv tv ta tb uv ua ub rv ra rb rt se pv pa gv ga ov oa (va_up qv 0 (nI 0)) qa hv ha nv na yv ya cf cs) ∧ r = some (.int (qv 0))) := by
  refine Con.of (by decide) (Nat.le_of_ble_eq_true rfl) ?_
  refine XG.blk tX8_forget_ok 0 9 (pc' := 17) (pl' := [some (.ref 0), some (.int (qv 0))]) (st' := [(.int (qv 0))]) (W1 := (sW bv tv ta tb uv ua ub rv ra rb rt se pv pa gv ga ov oa (va_up qv 0 (nI 0)) qa hv ha nv na yv ya cf cs)) (bs := []) rfl rfl rfl ?_
  refine XS.iret eX8_forget_17 rfl rfl ?_
  exact ⟨rfl, rfl⟩
set_option maxHeartbeats 1000000 in
theorem cs_back (d : Nat) (bv : Nat → Int32) (tv : Nat → Int32) (ta : Nat → Nat → Int32) (tb : Nat → Nat → Int64) (uv : Nat → Int32) (ua : Nat → Nat → Int32) (ub : Nat → Nat → Int64) (rv : Nat → Int32) (ra : Nat → Nat → Int32) (rb : Nat → Nat → Int64) (rt : Value) (se : Nat → Int32) (pv : Nat → Int32) (pa : Nat → Nat → Int32) (gv : Nat → Int32) (ga : Nat → Nat → Int32) (ov : Nat → Int32) (oa : Nat → Nat → Int32) (qv : Nat → Int32) (qa : Nat → Nat → Int32) (hv : Nat → Int32) (ha : Nat → Nat → Int32) (nv : Nat → Int32) (na : Nat → Nat → Int32) (yv : Nat → Int32) (ya : Nat → Nat → Int32) (cf : Nat → Int32) (cs : Nat → Int32) (x : Int32) : Con mX8_back d [.ref 0, .int x] (sW bv tv ta tb uv ua ub rv ra rb rt se pv pa gv ga ov oa qv qa hv ha nv na yv ya cf cs) (fun r W' => (0 ≤ x ∧ x ≤ rv 0 → W' = (sW bv tv ta tb uv ua ub (va_up rv 0 (rv 0 - x)) ra rb rt se pv pa gv ga ov oa qv qa hv ha nv na yv ya cf cs) ∧ r = some (.int (rv 0 - x))) ∧ (¬ (0 ≤ x ∧ x ≤ rv 0) → W' = (sW bv tv ta tb uv ua ub rv ra rb rt se pv pa gv ga ov oa qv qa hv ha nv na yv ya cf cs) ∧ r = some (.int (-1)))) := by
  refine Con.of (by decide) (Nat.le_of_ble_eq_true rfl) ?_
  refine XG.blk tX8_back_ok 0 1 (pc' := 1) (pl' := [some (.ref 0), some (.int x)]) (st' := [(.int x)]) (W1 := (sW bv tv ta tb uv ua ub rv ra rb rt se pv pa gv ga ov oa qv qa hv ha nv na yv ya cf cs)) (bs := []) rfl rfl rfl ?_
  refine XG.br eX8_back_1 (P := x < 0) (r := []) rfl (tgt := 15) (by decide) (fun h1 => ?_) (fun h1 => ?_)
  · skip
    refine XG.blk tX8_back_ok 7 1 (pc' := 16) (pl' := [some (.ref 0), some (.int x)]) (st' := [(.int (-1))]) (W1 := (sW bv tv ta tb uv ua ub rv ra rb rt se pv pa gv ga ov oa qv qa hv ha nv na yv ya cf cs)) (bs := []) rfl rfl rfl ?_
    refine XS.iret eX8_back_16 rfl rfl ?_
    exact ⟨fun w => absurd w.1 (Int32.not_le.mpr h1), fun _ => ⟨rfl, rfl⟩⟩
  · skip
    refine XG.blk tX8_back_ok 2 4 (pc' := 12) (pl' := [some (.ref 0), some (.int x)]) (st' := [(.int (rv 0)), (.int x)]) (W1 := (sW bv tv ta tb uv ua ub rv ra rb rt se pv pa gv ga ov oa qv qa hv ha nv na yv ya cf cs)) (bs := []) rfl rfl rfl ?_
    refine XG.br eX8_back_12 (P := x ≤ (rv 0)) (r := []) rfl (tgt := 17) (by decide) (fun h12 => ?_) (fun h12 => ?_)
    · skip
      refine XG.blk tX8_back_ok 9 10 (pc' := 37) (pl' := [some (.ref 0), some (.int x)]) (st' := [(.int ((rv 0) - x))]) (W1 := (sW bv tv ta tb uv ua ub (va_up rv 0 ((rv 0) - x)) ra rb rt se pv pa gv ga ov oa qv qa hv ha nv na yv ya cf cs)) (bs := []) rfl rfl rfl ?_
      refine XS.iret eX8_back_37 rfl rfl ?_
      exact ⟨fun _ => ⟨rfl, rfl⟩, fun w => absurd ⟨Int32.not_lt.mp h1, h12⟩ w⟩
    · skip
      refine XG.blk tX8_back_ok 7 1 (pc' := 16) (pl' := [some (.ref 0), some (.int x)]) (st' := [(.int (-1))]) (W1 := (sW bv tv ta tb uv ua ub rv ra rb rt se pv pa gv ga ov oa qv qa hv ha nv na yv ya cf cs)) (bs := []) rfl rfl rfl ?_
      refine XS.iret eX8_back_16 rfl rfl ?_
      exact ⟨fun w => absurd w.2 h12, fun _ => ⟨rfl, rfl⟩⟩
