/-! THE CLASS ITSELF: count -/
set_option maxHeartbeats 4000000 in
theorem pt_st (bv : Nat → Int32) (tv : Nat → Int32) (ta : Nat → Nat → Int32) (tb : Nat → Nat → Int64) (uv : Nat → Int32) (ua : Nat → Nat → Int32) (ub : Nat → Nat → Int64) (rv : Nat → Int32) (ra : Nat → Nat → Int32) (rb : Nat → Nat → Int64) (rt : Value) (se : Nat → Int32) (pv : Nat → Int32) (pa : Nat → Nat → Int32) (gv : Nat → Int32) (ga : Nat → Nat → Int32) (ov : Nat → Int32) (oa : Nat → Nat → Int32) (qv : Nat → Int32) (qa : Nat → Nat → Int32) (hv : Nat → Int32) (ha : Nat → Nat → Int32) (nv : Nat → Int32) (na : Nat → Nat → Int32) (yv : Nat → Int32) (ya : Nat → Nat → Int32) (cf : Nat → Int32) (cs : Nat → Int32) (tv' : Nat → Int32) (ta' : Nat → Nat → Int32) (tb' : Nat → Nat → Int64) : px_pt (px_f [1, 2, 3, 4, 5, 6, 7, 8, 9, 10, 11, 12, 13, 14, 15]) [1, 2, 3, 4, 5, 6, 7, 8, 9, 10, 11, 12, 13, 14, 15] (tW tv' ta' tb') (sW bv tv ta tb uv ua ub rv ra rb rt se pv pa gv ga ov oa qv qa hv ha nv na yv ya cf cs) = sW bv tv' ta' tb' uv ua ub rv ra rb rt se pv pa gv ga ov oa qv qa hv ha nv na yv ya cf cs := by
  unfold sW tW
  simp only [px_pt, List.set_cons_succ, List.set_cons_zero]
  rfl
theorem all_bit : ∀ n : Fin 7, ∀ x : Fin 6, x.val < n.val → ((((nI 1 <<< (nI n.val &&& 31)) - nI 1) >>> (nI x.val &&& 31)) &&& nI 1) = nI 1 := by decide +kernel
theorem wg_all (f : Nat → Int32) (lv : Nat) {sl : Nat} (h6 : sl ≤ 6) : wgF f lv sl ((nI 1 <<< (nI sl &&& 31)) - nI 1) = wgA f lv sl := by
  unfold wgF wgA
  refine itN_congr sl (fun k hk n => ?_)
  unfold chW
  rw [if_pos (all_bit ⟨sl, by omega⟩ ⟨k, by omega⟩ hk)]
set_option maxHeartbeats 1000000 in
theorem cs_countBridge (d : Nat) (bv : Nat → Int32) (tv : Nat → Int32) (ta : Nat → Nat → Int32) (tb : Nat → Nat → Int64) (uv : Nat → Int32) (ua : Nat → Nat → Int32) (ub : Nat → Nat → Int64) (rv : Nat → Int32) (ra : Nat → Nat → Int32) (rb : Nat → Nat → Int64) (rt : Value) (se : Nat → Int32) (pv : Nat → Int32) (pa : Nat → Nat → Int32) (gv : Nat → Int32) (ga : Nat → Nat → Int32) (ov : Nat → Int32) (oa : Nat → Nat → Int32) (qv : Nat → Int32) (qa : Nat → Nat → Int32) (hv : Nat → Int32) (ha : Nat → Nat → Int32) (nv : Nat → Int32) (na : Nat → Nat → Int32) (yv : Nat → Int32) (ya : Nat → Nat → Int32) (cf : Nat → Int32) (cs : Nat → Int32) (S : SD) (lv : Nat) (v : Nat → Int32) (a : Nat → Nat → Int32) (hX : CX S lv (aQ a) tv ta) (hN : CNt S (a 54) nv na) (hXR : XR S (a 54)) (what : Int32) (hw : what.toInt < 0 ∨ 11 < what.toInt) (hd : 5 ≤ d) : Con mX8_countBridge d [.ref 0, .int what] (sW bv tv ta tb uv ua ub rv ra rb rt se pv pa gv ga ov oa qv qa hv ha nv na yv ya cf cs) (fun r W' => ∃ se' ta', W' = (sW bv tv ta' tb uv ua ub rv ra rb rt se' pv pa gv ga ov oa qv qa hv ha nv na yv ya cf cs) ∧ chg [22] ta ta' ∧ r = some (.int (qCount v a lv (S.1 23) (S.1 24) (S.1 31) what))) := by
  obtain ⟨hsp, hsp1, hsp2⟩ := hX.sp
  obtain ⟨hsl, hsl2⟩ := hX.sl
  obtain ⟨hcr, hcr2⟩ := hX.cr
  refine Con.of (by decide) (Nat.le_of_ble_eq_true rfl) ?_
  refine XG.blk tX8_countBridge_ok 0 1 (pc' := 1) (pl' := [some (.ref 0), some (.int what)]) (st' := [(.int what)]) (W1 := (sW bv tv ta tb uv ua ub rv ra rb rt se pv pa gv ga ov oa qv qa hv ha nv na yv ya cf cs)) (bs := []) rfl rfl rfl ?_
  refine XG.tsw eX8_countBridge_1 (td := 129) (by decide) (tg := [44, 52, 66, 78, 97, 109, 121]) (by decide) (by decide) (fun h1 => ?_) (fun j1 t1 hj1 h1 => ?_)
  · skip
    refine XG.blk tX8_countBridge_ok 46 1 (pc' := 130) (pl' := [some (.ref 0), some (.int what)]) (st' := [(.int (-1))]) (W1 := (sW bv tv ta tb uv ua ub rv ra rb rt se pv pa gv ga ov oa qv qa hv ha nv na yv ya cf cs)) (bs := []) rfl rfl rfl ?_
    refine XS.iret eX8_countBridge_130 rfl rfl ?_
    exact ⟨_, _, rfl, chg.rf, by unfold qCount; rw [swF_out (m := 18) (by omega) rfl]⟩
  · have hl1 : j1 < 7 := (List.getElem?_eq_some_iff.mp hj1).1
    rcases (show j1 = 0 ∨ j1 = 1 ∨ j1 = 2 ∨ j1 = 3 ∨ j1 = 4 ∨ j1 = 5 ∨ j1 = 6 by omega) with rfl | rfl | rfl | rfl | rfl | rfl | rfl
    · cases hj1
      refine XG.blk tX8_countBridge_ok 2 3 (pc' := 51) (pl' := [some (.ref 0), some (.int what)]) (st' := [(.int (nv 4))]) (W1 := (sW bv tv ta tb uv ua ub rv ra rb rt se pv pa gv ga ov oa qv qa hv ha nv na yv ya cf cs)) (bs := []) rfl rfl rfl ?_
      refine XS.iret eX8_countBridge_51 rfl rfl ?_
      refine ⟨_, _, rfl, chg.rf, ?_⟩
      unfold qCount
      rw [swF_in 12 (show what.toInt = (0 : Int) + ((12 : Nat) : Int) by omega) rfl (Nat.le_of_ble_eq_true rfl)]
      rw [hN.2.2.2.2.1, show a 35 lv = nI (S.1 35) from hX.dw.2.2, asl_mk (a 54) (nI (S.1 35)) hsl2]
    · cases hj1
      refine XG.blk tX8_countBridge_ok 6 5 (pc' := 62) (pl' := [some (.ref 0), some (.int what)]) (st' := [(.int (nI 10)), (.ref 68), (.ref 37)]) (W1 := (sW bv tv ta tb uv ua ub rv ra rb rt se pv pa gv ga ov oa qv qa hv ha nv na yv ya cf cs)) (bs := []) rfl rfl rfl ?_
      refine XG.callV (ro := [37, 38, 1, 2, 3, 4, 5, 6, 7, 8, 9, 10, 11, 12, 13, 14, 15, 68, 69, 70, 71, 72]) (W1 := (rW se tv ta tb nv na)) eX8_countBridge_62 kl_X8_148 (cc_crossersAt (d - 1) se tv ta tb nv na S lv (aQ a) hX (a 54) hN (nI 10)) (px_fitS (by omega)) rfl ⟨rfl, by decide, by decide⟩ rfl rfl (Nat.le_of_ble_eq_true rfl) (fun r9 W9 hp9 hl9 => ?_)
      obtain ⟨rfl, rfl⟩ := hp9
      rw [pt_srn]
      show XG _ _ _ _ _ _ [(.int (itN (bitsF (a 54) 18 (nI 10)) 0 (S.1 31)))] (sW bv tv ta tb uv ua ub rv ra rb rt se pv pa gv ga ov oa qv qa hv ha nv na yv ya cf cs)
      refine XS.iret eX8_countBridge_65 rfl rfl ?_
      refine ⟨_, _, rfl, chg.rf, ?_⟩
      unfold qCount
      rw [swF_in 13 (show what.toInt = (0 : Int) + ((13 : Nat) : Int) by omega) rfl (Nat.le_of_ble_eq_true rfl)]
      try rfl
    · cases hj1
      refine XG.blk tX8_countBridge_ok 13 4 (pc' := 74) (pl' := [some (.ref 0), some (.int what)]) (st' := [(.ref 68), (.ref 37)]) (W1 := (sW bv tv ta tb uv ua ub rv ra rb rt se pv pa gv ga ov oa qv qa hv ha nv na yv ya cf cs)) (bs := []) rfl rfl rfl ?_
      refine XG.callV (ro := [37, 38, 1, 2, 3, 4, 5, 6, 7, 8, 9, 10, 11, 12, 13, 14, 15, 68, 69, 70, 71, 72]) (W1 := (rW se tv ta tb nv na)) eX8_countBridge_74 kl_X8_303 (cc_noiseOf (d - 1) se tv ta tb nv na S lv (aQ a) hX (a 54) hN) (px_fitS (by omega)) rfl ⟨rfl, by decide, by decide⟩ rfl rfl (Nat.le_of_ble_eq_true rfl) (fun r9 W9 hp9 hl9 => ?_)
      obtain ⟨rfl, rfl⟩ := hp9
      rw [pt_srn]
      show XG _ _ _ _ _ _ [(.int (itN (noiseF (a 54) (aQ a 33) lv) 0 (S.1 31)))] (sW bv tv ta tb uv ua ub rv ra rb rt se pv pa gv ga ov oa qv qa hv ha nv na yv ya cf cs)
      refine XS.iret eX8_countBridge_77 rfl rfl ?_
      refine ⟨_, _, rfl, chg.rf, ?_⟩
      unfold qCount
      rw [swF_in 14 (show what.toInt = (0 : Int) + ((14 : Nat) : Int) by omega) rfl (Nat.le_of_ble_eq_true rfl)]
      try rfl
    · cases hj1
      have q1 : (tv 1) = (nI (S.1 24)) := hsl
      refine XG.blk tX8_countBridge_ok 19 9 (pc' := 93) (pl' := [some (.ref 0), some (.int what)]) (st' := [(.int (((nI 1) <<< ((tv 1) &&& 31)) - (nI 1))), (.ref 1)]) (W1 := (sW bv tv ta tb uv ua ub rv ra rb rt se pv pa gv ga ov oa qv qa hv ha nv na yv ya cf cs)) (bs := []) rfl rfl rfl ?_
      simp only [q1]
      refine XG.callV (ro := [1, 2, 3, 4, 5, 6, 7, 8, 9, 10, 11, 12, 13, 14, 15]) (W1 := (tW tv ta tb)) eX8_countBridge_93 kl_X8_306 (cc_wagesOf (d - 1) tv ta tb S lv (aQ a) hX (((nI 1) <<< ((nI (S.1 24)) &&& 31)) - (nI 1))) (px_fitS (by omega)) rfl ⟨rfl, by decide, by decide⟩ rfl rfl (Nat.le_of_ble_eq_true rfl) (fun r9 W9 hp9 hl9 => ?_)
      obtain ⟨rfl, rfl⟩ := hp9
      rw [pt_st]
      show XG _ _ _ _ _ _ [(.int (wgF (aQ a 27) lv (S.1 24) (((nI 1) <<< ((nI (S.1 24)) &&& 31)) - (nI 1))))] (sW bv tv ta tb uv ua ub rv ra rb rt se pv pa gv ga ov oa qv qa hv ha nv na yv ya cf cs)
      refine XS.iret eX8_countBridge_96 rfl rfl ?_
      refine ⟨_, _, rfl, chg.rf, ?_⟩
      unfold qCount
      rw [swF_in 15 (show what.toInt = (0 : Int) + ((15 : Nat) : Int) by omega) rfl (Nat.le_of_ble_eq_true rfl)]
      exact congrArg (fun z => some (Value.int z)) (wg_all (a 27) lv hsl2)
    · cases hj1
      refine XG.blk tX8_countBridge_ok 30 4 (pc' := 105) (pl' := [some (.ref 0), some (.int what)]) (st' := [(.ref 68), (.ref 37)]) (W1 := (sW bv tv ta tb uv ua ub rv ra rb rt se pv pa gv ga ov oa qv qa hv ha nv na yv ya cf cs)) (bs := []) rfl rfl rfl ?_
      refine XG.callV (ro := [37, 38, 1, 2, 3, 4, 5, 6, 7, 8, 9, 10, 11, 12, 13, 14, 15, 68, 69, 70, 71, 72]) (W1 := (rW se tv ta tb nv na)) eX8_countBridge_105 kl_X8_309 (cc_allDreams (d - 1) se tv ta tb nv na S lv (aQ a) hX (a 54) hN (by omega)) (px_fitS (by omega)) rfl ⟨rfl, by decide, by decide⟩ rfl rfl (Nat.le_of_ble_eq_true rfl) (fun r9 W9 hp9 hl9 => ?_)
      obtain ⟨rfl, rfl⟩ := hp9
      rw [pt_srn]
      show XG _ _ _ _ _ _ [(.int (drA (a 54) (nI (S.1 35)) (aQ a 29) lv (S.1 24) (S.1 23)))] (sW bv tv ta tb uv ua ub rv ra rb rt se pv pa gv ga ov oa qv qa hv ha nv na yv ya cf cs)
      refine XS.iret eX8_countBridge_108 rfl rfl ?_
      refine ⟨_, _, rfl, chg.rf, ?_⟩
      unfold qCount
      rw [swF_in 16 (show what.toInt = (0 : Int) + ((16 : Nat) : Int) by omega) rfl (Nat.le_of_ble_eq_true rfl)]
      rw [show a 35 lv = nI (S.1 35) from hX.dw.2.2]; rfl
    · cases hj1
      refine XG.blk tX8_countBridge_ok 36 4 (pc' := 117) (pl' := [some (.ref 0), some (.int what)]) (st' := [(.ref 68), (.ref 37)]) (W1 := (sW bv tv ta tb uv ua ub rv ra rb rt se pv pa gv ga ov oa qv qa hv ha nv na yv ya cf cs)) (bs := []) rfl rfl rfl ?_
      refine XG.callV (ro := [37, 38, 1, 2, 3, 4, 5, 6, 7, 8, 9, 10, 11, 12, 13, 14, 15, 68, 69, 70, 71, 72]) (W1 := (rW se tv ta tb nv na)) eX8_countBridge_117 kl_X8_214 (cc_leastBorne (d - 1) se tv ta tb nv na S lv (aQ a) hX (a 54) hN (by omega)) (px_fitS (by omega)) rfl ⟨rfl, by decide, by decide⟩ rfl rfl (Nat.le_of_ble_eq_true rfl) (fun r9 W9 hp9 hl9 => ?_)
      obtain ⟨se1, sk1, rfl, rfl⟩ := hp9
      rw [pt_srn]
      show XG _ _ _ _ _ _ [(.int (lR (aQ a) lv (S.1 23) (S.1 24) (S.1 31) (a 54)))] (sW bv tv (va_up ta 22 sk1) tb uv ua ub rv ra rb rt se1 pv pa gv ga ov oa qv qa hv ha nv na yv ya cf cs)
      refine XS.iret eX8_countBridge_120 rfl rfl ?_
      refine ⟨_, _, rfl, (chg.up (by decide)), ?_⟩
      unfold qCount
      rw [swF_in 17 (show what.toInt = (0 : Int) + ((17 : Nat) : Int) by omega) rfl (Nat.le_of_ble_eq_true rfl)]
      try rfl
    · cases hj1
      refine XG.blk tX8_countBridge_ok 42 2 (pc' := 125) (pl' := [some (.ref 0), some (.int what)]) (st' := [(.ref 68)]) (W1 := (sW bv tv ta tb uv ua ub rv ra rb rt se pv pa gv ga ov oa qv qa hv ha nv na yv ya cf cs)) (bs := []) rfl rfl rfl ?_
      refine XG.callV (ro := [68, 69, 70, 71, 72]) (W1 := (nW nv na)) eX8_countBridge_125 kl_X8_312 (cc_allOvers (d - 1) nv na S (a 54) hN) (px_fitS (by omega)) rfl ⟨rfl, by decide, by decide⟩ rfl rfl (Nat.le_of_ble_eq_true rfl) (fun r9 W9 hp9 hl9 => ?_)
      obtain ⟨rfl, rfl⟩ := hp9
      rw [pt_sn]
      show XG _ _ _ _ _ _ [(.int (ovA (a 54) 5))] (sW bv tv ta tb uv ua ub rv ra rb rt se pv pa gv ga ov oa qv qa hv ha nv na yv ya cf cs)
      refine XS.iret eX8_countBridge_128 rfl rfl ?_
      refine ⟨_, _, rfl, chg.rf, ?_⟩
      unfold qCount
      rw [swF_in 18 (show what.toInt = (0 : Int) + ((18 : Nat) : Int) by omega) rfl (Nat.le_of_ble_eq_true rfl)]
      rw [ov_5 hX.2.1 hXR 5 hcr2 (by omega)]
set_option maxHeartbeats 1000000 in
theorem cs_count (d : Nat) (bv : Nat → Int32) (tv : Nat → Int32) (ta : Nat → Nat → Int32) (tb : Nat → Nat → Int64) (uv : Nat → Int32) (ua : Nat → Nat → Int32) (ub : Nat → Nat → Int64) (rv : Nat → Int32) (ra : Nat → Nat → Int32) (rb : Nat → Nat → Int64) (rt : Value) (se : Nat → Int32) (pv : Nat → Int32) (pa : Nat → Nat → Int32) (gv : Nat → Int32) (ga : Nat → Nat → Int32) (ov : Nat → Int32) (oa : Nat → Nat → Int32) (qv : Nat → Int32) (qa : Nat → Nat → Int32) (hv : Nat → Int32) (ha : Nat → Nat → Int32) (nv : Nat → Int32) (na : Nat → Nat → Int32) (yv : Nat → Int32) (ya : Nat → Nat → Int32) (cf : Nat → Int32) (cs : Nat → Int32) (S : SD) (lv : Nat) (v : Nat → Int32) (a : Nat → Nat → Int32) (hX : CX S lv (aQ a) tv ta) (hN : CNt S (a 54) nv na) (hXR : XR S (a 54)) (e2 : rv 0 = v 2) (e61 : bv 10 = v 61) (e69 : qv 0 = v 69) (f : Nat) (hf : bv 12 = nI f) (hf8 : f < 8) (hl : hl3 (a 73) = nI (pcN f 6)) (what : Int32) (hd : 6 ≤ d) : Con mX8_count d [.ref 0, .int what] (sW bv tv ta tb uv ua ub rv ra rb rt se pv pa gv ga ov oa qv qa hv ha nv na yv ya cf cs) (fun r W' => ∃ se' ta', W' = (sW bv tv ta' tb uv ua ub rv ra rb rt se' pv pa gv ga ov oa qv qa hv ha nv na yv ya cf cs) ∧ chg [22] ta ta' ∧ r = some (.int (qCount v a lv (S.1 23) (S.1 24) (S.1 31) what))) := by
  obtain ⟨hsp, hsp1, hsp2⟩ := hX.sp
  obtain ⟨hsl, hsl2⟩ := hX.sl
  obtain ⟨hcr, hcr2⟩ := hX.cr
  refine Con.of (by decide) (Nat.le_of_ble_eq_true rfl) ?_
  refine XG.blk tX8_count_ok 0 1 (pc' := 1) (pl' := [some (.ref 0), some (.int what)]) (st' := [(.int what)]) (W1 := (sW bv tv ta tb uv ua ub rv ra rb rt se pv pa gv ga ov oa qv qa hv ha nv na yv ya cf cs)) (bs := []) rfl rfl rfl ?_
  refine XG.tsw eX8_count_1 (td := 157) (by decide) (tg := [64, 72, 80, 88, 96, 104, 112, 120, 128, 136, 141, 149]) (by decide) (by decide) (fun h1 => ?_) (fun j1 t1 hj1 h1 => ?_)
  · skip
    refine XG.blk tX8_count_ok 49 2 (pc' := 159) (pl' := [some (.ref 0), some (.int what)]) (st' := [(.int what), (.ref 0)]) (W1 := (sW bv tv ta tb uv ua ub rv ra rb rt se pv pa gv ga ov oa qv qa hv ha nv na yv ya cf cs)) (bs := []) rfl rfl rfl ?_
    refine XG.callV0 eX8_count_159 kl_X8_300 (cs_countBridge (d - 1) bv tv ta tb uv ua ub rv ra rb rt se pv pa gv ga ov oa qv qa hv ha nv na yv ya cf cs S lv v a hX hN hXR what h1 (by omega)) (px_fitS (by omega)) rfl rfl rfl (Nat.le_of_ble_eq_true rfl) (fun r9 W9 hp9 hl9 => ?_)
    obtain ⟨se1, ta1, rfl, hch, rfl⟩ := hp9
    show XG _ _ _ _ _ _ [(.int (qCount v a lv (S.1 23) (S.1 24) (S.1 31) what))] (sW bv tv ta1 tb uv ua ub rv ra rb rt se1 pv pa gv ga ov oa qv qa hv ha nv na yv ya cf cs)
    refine XS.iret eX8_count_162 rfl rfl ?_
    exact ⟨_, _, rfl, hch, rfl⟩
  · have hl1 : j1 < 12 := (List.getElem?_eq_some_iff.mp hj1).1
    rcases (show j1 = 0 ∨ j1 = 1 ∨ j1 = 2 ∨ j1 = 3 ∨ j1 = 4 ∨ j1 = 5 ∨ j1 = 6 ∨ j1 = 7 ∨ j1 = 8 ∨ j1 = 9 ∨ j1 = 10 ∨ j1 = 11 by omega) with rfl | rfl | rfl | rfl | rfl | rfl | rfl | rfl | rfl | rfl | rfl | rfl
    · cases hj1
      refine XG.blk tX8_count_ok 2 3 (pc' := 71) (pl' := [some (.ref 0), some (.int what)]) (st' := [(.int (tv 0))]) (W1 := (sW bv tv ta tb uv ua ub rv ra rb rt se pv pa gv ga ov oa qv qa hv ha nv na yv ya cf cs)) (bs := []) rfl rfl rfl ?_
      refine XS.iret eX8_count_71 rfl rfl ?_
      refine ⟨_, _, rfl, chg.rf, ?_⟩
      unfold qCount
      rw [swF_in 0 h1 rfl (Nat.le_of_ble_eq_true rfl)]
      rw [hsp]
    · cases hj1
      refine XG.blk tX8_count_ok 6 3 (pc' := 79) (pl' := [some (.ref 0), some (.int what)]) (st' := [(.int (tv 1))]) (W1 := (sW bv tv ta tb uv ua ub rv ra rb rt se pv pa gv ga ov oa qv qa hv ha nv na yv ya cf cs)) (bs := []) rfl rfl rfl ?_
      refine XS.iret eX8_count_79 rfl rfl ?_
      refine ⟨_, _, rfl, chg.rf, ?_⟩
      unfold qCount
      rw [swF_in 1 h1 rfl (Nat.le_of_ble_eq_true rfl)]
      rw [hsl]
    · cases hj1
      refine XG.blk tX8_count_ok 10 3 (pc' := 87) (pl' := [some (.ref 0), some (.int what)]) (st' := [(.int (tv 2))]) (W1 := (sW bv tv ta tb uv ua ub rv ra rb rt se pv pa gv ga ov oa qv qa hv ha nv na yv ya cf cs)) (bs := []) rfl rfl rfl ?_
      refine XS.iret eX8_count_87 rfl rfl ?_
      refine ⟨_, _, rfl, chg.rf, ?_⟩
      unfold qCount
      rw [swF_in 2 h1 rfl (Nat.le_of_ble_eq_true rfl)]
      rw [hX.pr.1, show a 30 lv = nI (S.1 30) from hX.1.1 30 (by decide)]
    · cases hj1
      refine XG.blk tX8_count_ok 14 3 (pc' := 95) (pl' := [some (.ref 0), some (.int what)]) (st' := [(.int (tv 3))]) (W1 := (sW bv tv ta tb uv ua ub rv ra rb rt se pv pa gv ga ov oa qv qa hv ha nv na yv ya cf cs)) (bs := []) rfl rfl rfl ?_
      refine XS.iret eX8_count_95 rfl rfl ?_
      refine ⟨_, _, rfl, chg.rf, ?_⟩
      unfold qCount
      rw [swF_in 3 h1 rfl (Nat.le_of_ble_eq_true rfl)]
      rw [hcr]
    · cases hj1
      refine XG.blk tX8_count_ok 18 3 (pc' := 103) (pl' := [some (.ref 0), some (.int what)]) (st' := [(.int (nv 0))]) (W1 := (sW bv tv ta tb uv ua ub rv ra rb rt se pv pa gv ga ov oa qv qa hv ha nv na yv ya cf cs)) (bs := []) rfl rfl rfl ?_
      refine XS.iret eX8_count_103 rfl rfl ?_
      refine ⟨_, _, rfl, chg.rf, ?_⟩
      unfold qCount
      rw [swF_in 4 h1 rfl (Nat.le_of_ble_eq_true rfl)]
      rw [hN.1]
    · cases hj1
      refine XG.blk tX8_count_ok 22 3 (pc' := 111) (pl' := [some (.ref 0), some (.int what)]) (st' := [(.int (nv 1))]) (W1 := (sW bv tv ta tb uv ua ub rv ra rb rt se pv pa gv ga ov oa qv qa hv ha nv na yv ya cf cs)) (bs := []) rfl rfl rfl ?_
      refine XS.iret eX8_count_111 rfl rfl ?_
      refine ⟨_, _, rfl, chg.rf, ?_⟩
      unfold qCount
      rw [swF_in 5 h1 rfl (Nat.le_of_ble_eq_true rfl)]
      rw [hN.2.1]
    · cases hj1
      refine XG.blk tX8_count_ok 26 3 (pc' := 119) (pl' := [some (.ref 0), some (.int what)]) (st' := [(.int (nv 2))]) (W1 := (sW bv tv ta tb uv ua ub rv ra rb rt se pv pa gv ga ov oa qv qa hv ha nv na yv ya cf cs)) (bs := []) rfl rfl rfl ?_
      refine XS.iret eX8_count_119 rfl rfl ?_
      refine ⟨_, _, rfl, chg.rf, ?_⟩
      unfold qCount
      rw [swF_in 6 h1 rfl (Nat.le_of_ble_eq_true rfl)]
      rw [hN.2.2.1]
    · cases hj1
      refine XG.blk tX8_count_ok 30 3 (pc' := 127) (pl' := [some (.ref 0), some (.int what)]) (st' := [(.int (nv 3))]) (W1 := (sW bv tv ta tb uv ua ub rv ra rb rt se pv pa gv ga ov oa qv qa hv ha nv na yv ya cf cs)) (bs := []) rfl rfl rfl ?_
      refine XS.iret eX8_count_127 rfl rfl ?_
      refine ⟨_, _, rfl, chg.rf, ?_⟩
      unfold qCount
      rw [swF_in 7 h1 rfl (Nat.le_of_ble_eq_true rfl)]
      rw [hN.2.2.2.1]
    · cases hj1
      refine XG.blk tX8_count_ok 34 3 (pc' := 135) (pl' := [some (.ref 0), some (.int what)]) (st' := [(.int (rv 0))]) (W1 := (sW bv tv ta tb uv ua ub rv ra rb rt se pv pa gv ga ov oa qv qa hv ha nv na yv ya cf cs)) (bs := []) rfl rfl rfl ?_
      refine XS.iret eX8_count_135 rfl rfl ?_
      refine ⟨_, _, rfl, chg.rf, ?_⟩
      unfold qCount
      rw [swF_in 8 h1 rfl (Nat.le_of_ble_eq_true rfl)]
      rw [e2]
    · cases hj1
      refine XG.blk tX8_count_ok 38 2 (pc' := 140) (pl' := [some (.ref 0), some (.int what)]) (st' := [(.int (bv 10))]) (W1 := (sW bv tv ta tb uv ua ub rv ra rb rt se pv pa gv ga ov oa qv qa hv ha nv na yv ya cf cs)) (bs := []) rfl rfl rfl ?_
      refine XS.iret eX8_count_140 rfl rfl ?_
      refine ⟨_, _, rfl, chg.rf, ?_⟩
      unfold qCount
      rw [swF_in 9 h1 rfl (Nat.le_of_ble_eq_true rfl)]
      rw [e61]
    · cases hj1
      refine XG.blk tX8_count_ok 41 3 (pc' := 148) (pl' := [some (.ref 0), some (.int what)]) (st' := [(.int (qv 0))]) (W1 := (sW bv tv ta tb uv ua ub rv ra rb rt se pv pa gv ga ov oa qv qa hv ha nv na yv ya cf cs)) (bs := []) rfl rfl rfl ?_
      refine XS.iret eX8_count_148 rfl rfl ?_
      refine ⟨_, _, rfl, chg.rf, ?_⟩
      unfold qCount
      rw [swF_in 10 h1 rfl (Nat.le_of_ble_eq_true rfl)]
      rw [e69]
    · cases hj1
      have q1 : (bv 12) = (nI f) := hf
      refine XG.blk tX8_count_ok 45 2 (pc' := 153) (pl' := [some (.ref 0), some (.int what)]) (st' := [(.int (bv 12))]) (W1 := (sW bv tv ta tb uv ua ub rv ra rb rt se pv pa gv ga ov oa qv qa hv ha nv na yv ya cf cs)) (bs := []) rfl rfl rfl ?_
      simp only [q1]
      refine XG.callSp (r := some (.int (nI (pcN f 6)))) eX8_count_153 kl_X8_206 (con_bitCount (d - 1) f (by omega)) (px_fitS (by omega)) rfl rfl rfl rfl (Nat.le_of_ble_eq_true rfl) ?_
      refine XS.iret eX8_count_156 rfl rfl ?_
      refine ⟨_, _, rfl, chg.rf, ?_⟩
      unfold qCount
      rw [swF_in 11 h1 rfl (Nat.le_of_ble_eq_true rfl)]
      rw [hl]
