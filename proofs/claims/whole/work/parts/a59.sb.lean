/-! THE CLASS ITSELF: then -/
theorem not05 {x : Int32} (h : nI 0 ≤ x ∧ x ≤ nI 5) (w : x.toInt < 0 ∨ 5 < x.toInt) : False := by
  have e1 := Int32.le_iff_toInt_le.mp h.1
  have e2 := Int32.le_iff_toInt_le.mp h.2
  rw [show (nI 0).toInt = 0 from rfl] at e1
  rw [show (nI 5).toInt = 5 from rfl] at e2
  omega
set_option maxHeartbeats 4000000 in
theorem cs_thenI (d : Nat) (bv : Nat → Int32) (tv : Nat → Int32) (ta : Nat → Nat → Int32) (tb : Nat → Nat → Int64) (uv : Nat → Int32) (ua : Nat → Nat → Int32) (ub : Nat → Nat → Int64) (rv : Nat → Int32) (ra : Nat → Nat → Int32) (rb : Nat → Nat → Int64) (rt : Value) (se : Nat → Int32) (pv : Nat → Int32) (pa : Nat → Nat → Int32) (gv : Nat → Int32) (ga : Nat → Nat → Int32) (ov : Nat → Int32) (oa : Nat → Nat → Int32) (qv : Nat → Int32) (qa : Nat → Nat → Int32) (hv : Nat → Int32) (ha : Nat → Nat → Int32) (nv : Nat → Int32) (na : Nat → Nat → Int32) (yv : Nat → Int32) (ya : Nat → Nat → Int32) (cf : Nat → Int32) (cs : Nat → Int32) (S : SD) (lv : Nat) (v : Nat → Int32) (a : Nat → Nat → Int32) (hX : CX S lv (aQ a) tv ta) (hN : CNt S (a 54) nv na) (H : Nat) (hGR : GR S H (a 54)) (hH : H ≤ 50000) (nn : Nat) (hnn : nn < 100) (q what which : Int32) (hd : 8 ≤ d) : Con mX8_then d [.ref 0, .int (nI nn), .int q, .int what, .int which] (sW bv tv ta tb uv ua ub rv ra rb rt se pv pa gv ga ov oa qv qa hv ha nv na yv ya cf cs) (fun r W' => ∃ yv' ya' se' ta', W' = (sW bv tv ta' tb uv ua ub rv ra rb rt se' pv pa gv ga ov oa qv qa hv ha nv na yv' ya' cf cs) ∧ chg [22] ta ta' ∧ r = some (.int (if okThen (S.1 23) (S.1 31) (nI nn) what which then qThen v a lv (S.1 23) (S.1 24) (S.1 31) nn q what which else -100))) := by
  obtain ⟨hsp, hsp1, hsp2⟩ := hX.sp
  obtain ⟨hsl, hsl2⟩ := hX.sl
  obtain ⟨hcr, hcr2⟩ := hX.cr
  have hn : px_vb (nI nn) 100 = true := px_vbN hnn (by decide)
  have hT : (what = 0 → px_vb which (S.1 31) = true) → (what = nI 1 → px_vb which (S.1 23) = true) → XS mX8_then d (fun r W' => ∃ yv' ya' se' ta', W' = (sW bv tv ta' tb uv ua ub rv ra rb rt se' pv pa gv ga ov oa qv qa hv ha nv na yv' ya' cf cs) ∧ chg [22] ta ta' ∧ r = some (.int (if okThen (S.1 23) (S.1 31) (nI nn) what which then qThen v a lv (S.1 23) (S.1 24) (S.1 31) nn q what which else -100))) 40 [some (.ref 0), some (.int (nI nn)), some (.int q), some (.int what), some (.int which)] [] (sW bv tv ta tb uv ua ub rv ra rb rt se pv pa gv ga ov oa qv qa hv ha nv na yv ya cf cs) := by
    intro hw0 hw1
    refine XG.blk tX8_then_ok 20 4 (pc' := 48) (pl' := [some (.ref 0), some (.int (nI nn)), some (.int q), some (.int what), some (.int which)]) (st' := [(.ref 68), (.ref 73)]) (W1 := (sW bv tv ta tb uv ua ub rv ra rb rt se pv pa gv ga ov oa qv qa hv ha nv na yv ya cf cs)) (bs := []) rfl rfl rfl ?_
    refine XG.callV (ro := [73, 74, 75, 76, 77, 68, 69, 70, 71, 72]) (W1 := (cW yv ya nv na)) eX8_then_48 kl_X8_202 (cc_copy (d - 1) yv ya nv na (by omega)) (px_fitS (by omega)) rfl ⟨rfl, by decide, by decide⟩ rfl rfl (Nat.le_of_ble_eq_true rfl) (fun r9 W9 hp9 hl9 => ?_)
    obtain ⟨yv1, ya1, rfl, hE1, rfl⟩ := hp9
    have hN1 : CNt S (a 54) yv1 ya1 := hN.eq hsl2 hE1
    rw [pt_sc]
    show XG _ _ _ _ _ _ [] (sW bv tv ta tb uv ua ub rv ra rb rt se pv pa gv ga ov oa qv qa hv ha nv na yv1 ya1 cf cs)
    have q1 : (tv 6) = (a 37 lv) := hX.sd.1.trans hX.sd.2.2.symm
    refine XG.blk tX8_then_ok 25 9 (pc' := 68) (pl' := [some (.ref 0), some (.int (nI nn)), some (.int q), some (.int what), some (.int which)]) (st' := [(.int (tv 6)), (.int q), (.int (nI nn)), (.ref 73), (.ref 37)]) (W1 := (sW bv tv ta tb uv ua ub rv ra rb rt se pv pa gv ga ov oa qv qa hv ha nv na yv1 ya1 cf cs)) (bs := []) rfl rfl rfl ?_
    simp only [q1]
    refine XG.callV (ro := [37, 38, 1, 2, 3, 4, 5, 6, 7, 8, 9, 10, 11, 12, 13, 14, 15, 73, 74, 75, 76, 77]) (W1 := (rW se tv ta tb yv1 ya1)) eX8_then_68 kl_X8_182 (cc_passHours (d - 1) se tv ta tb yv1 ya1 S lv (aQ a) hX (a 54) hN1 (vQ v a lv q) nn H (by omega) hGR (by omega) (by omega)) (px_fitS (by omega)) rfl ⟨rfl, by decide, by decide⟩ rfl rfl (Nat.le_of_ble_eq_true rfl) (fun r9 W9 hp9 hl9 => ?_)
    obtain ⟨se2, sk2, yv2, ya2, rfl, hN2, rfl⟩ := hp9
    have hX2 : CX S lv (aQ a) tv (va_up ta 22 sk2) := hX.sk
    have hmS : mkN (slpB (snR (vQ v a lv q) (aQ a) lv (S.1 23) (S.1 24) (S.1 31) (a 54) nn) (nI (S.1 35))) (S.1 24) < 64 := mkN_64 hsl2
    rw [pt_sry]
    show XG _ _ _ _ _ _ [] (sW bv tv (va_up ta 22 sk2) tb uv ua ub rv ra rb rt se2 pv pa gv ga ov oa qv qa hv ha nv na yv2 ya2 cf cs)
    refine XG.blk tX8_then_ok 35 1 (pc' := 72) (pl' := [some (.ref 0), some (.int (nI nn)), some (.int q), some (.int what), some (.int which)]) (st' := [(.int what)]) (W1 := (sW bv tv (va_up ta 22 sk2) tb uv ua ub rv ra rb rt se2 pv pa gv ga ov oa qv qa hv ha nv na yv2 ya2 cf cs)) (bs := []) rfl rfl rfl ?_
    refine XG.tsw eX8_then_72 (td := 193) (by decide) (tg := [112, 123, 137, 148, 164, 181]) (by decide) (by decide) (fun h72 => ?_) (fun j72 t72 hj72 h72 => ?_)
    · skip
      refine XG.blk tX8_then_ok 77 1 (pc' := 195) (pl' := [some (.ref 0), some (.int (nI nn)), some (.int q), some (.int what), some (.int which)]) (st' := [(.int (-100))]) (W1 := (sW bv tv (va_up ta 22 sk2) tb uv ua ub rv ra rb rt se2 pv pa gv ga ov oa qv qa hv ha nv na yv2 ya2 cf cs)) (bs := []) rfl rfl rfl ?_
      refine XS.iret eX8_then_195 rfl rfl ?_
      refine ⟨_, _, _, _, rfl, (chg.up (by decide)), ?_⟩
      rw [if_neg (fun w => not05 w.2.1 h72)]
    · have hl72 : j72 < 6 := (List.getElem?_eq_some_iff.mp hj72).1
      rcases (show j72 = 0 ∨ j72 = 1 ∨ j72 = 2 ∨ j72 = 3 ∨ j72 = 4 ∨ j72 = 5 by omega) with rfl | rfl | rfl | rfl | rfl | rfl
      · cases hj72
        refine XG.blk tX8_then_ok 37 5 (pc' := 122) (pl' := [some (.ref 0), some (.int (nI nn)), some (.int q), some (.int what), some (.int which)]) (st' := [(.int ((ya2 7) which.toNatClampNeg))]) (W1 := (sW bv tv (va_up ta 22 sk2) tb uv ua ub rv ra rb rt se2 pv pa gv ga ov oa qv qa hv ha nv na yv2 ya2 cf cs)) (bs := [px_vb which 5]) rfl rfl (px_all ((vb_le (hw0 (sw_eq (k := 0) (Nat.le_of_ble_eq_true rfl) h72)) hcr2)) rfl) ?_
        refine XS.iret eX8_then_122 rfl rfl ?_
        have ew : what = nI 0 := sw_eq (Nat.le_of_ble_eq_true rfl) h72
        refine ⟨_, _, _, _, rfl, (chg.up (by decide)), ?_⟩
        rw [if_pos ⟨hn, ⟨by rw [ew]; decide, by rw [ew]; decide⟩, hw0, hw1⟩]
        unfold qThen
        rw [swF_in 0 h72 rfl (Nat.le_of_ble_eq_true rfl)]
        exact congrArg (fun z => some (Value.int z)) ((hN2.2.2.2.2.2.2 which.toNatClampNeg (vb_cl (by omega) (vb_le (hw0 ew) hcr2))).1)
      · cases hj72
        refine XG.blk tX8_then_ok 43 5 (pc' := 133) (pl' := [some (.ref 0), some (.int (nI nn)), some (.int q), some (.int what), some (.int which)]) (st' := [(.int which), (.ref 73), (.ref 37)]) (W1 := (sW bv tv (va_up ta 22 sk2) tb uv ua ub rv ra rb rt se2 pv pa gv ga ov oa qv qa hv ha nv na yv2 ya2 cf cs)) (bs := []) rfl rfl rfl ?_
        refine XG.callV (ro := [37, 38, 1, 2, 3, 4, 5, 6, 7, 8, 9, 10, 11, 12, 13, 14, 15, 73, 74, 75, 76, 77]) (W1 := (rW se2 tv (va_up ta 22 sk2) tb yv2 ya2)) eX8_then_133 kl_X8_139 (cc_borne (d - 1) se2 tv (va_up ta 22 sk2) tb yv2 ya2 S lv (aQ a) hX2 (snR (vQ v a lv q) (aQ a) lv (S.1 23) (S.1 24) (S.1 31) (a 54) nn) hN2 which (by omega)) (px_fitS (by omega)) rfl ⟨rfl, by decide, by decide⟩ rfl rfl (Nat.le_of_ble_eq_true rfl) (fun r9 W9 hp9 hl9 => ?_)
        obtain ⟨se3, sk3, rfl, rfl⟩ := hp9
        rw [pt_sry]
        show XG _ _ _ _ _ _ [(.int (bR (aQ a) lv (S.1 24) (S.1 31) (snR (vQ v a lv q) (aQ a) lv (S.1 23) (S.1 24) (S.1 31) (a 54) nn) which))] (sW bv tv (va_up ta 22 sk3) tb uv ua ub rv ra rb rt se3 pv pa gv ga ov oa qv qa hv ha nv na yv2 ya2 cf cs)
        refine XS.iret eX8_then_136 rfl rfl ?_
        have ew : what = nI 1 := sw_eq (Nat.le_of_ble_eq_true rfl) h72
        refine ⟨_, _, _, _, rfl, (chg.up (by decide)), ?_⟩
        rw [if_pos ⟨hn, ⟨by rw [ew]; decide, by rw [ew]; decide⟩, hw0, hw1⟩]
        unfold qThen
        rw [swF_in 1 h72 rfl (Nat.le_of_ble_eq_true rfl)]
      · cases hj72
        have q2 : (yv2 4) = (nI (mkN (slpB (snR (vQ v a lv q) (aQ a) lv (S.1 23) (S.1 24) (S.1 31) (a 54) nn) (nI (S.1 35))) (S.1 24))) := hN2.2.2.2.2.1
        refine XG.blk tX8_then_ok 50 3 (pc' := 144) (pl' := [some (.ref 0), some (.int (nI nn)), some (.int q), some (.int what), some (.int which)]) (st' := [(.int (yv2 4))]) (W1 := (sW bv tv (va_up ta 22 sk2) tb uv ua ub rv ra rb rt se2 pv pa gv ga ov oa qv qa hv ha nv na yv2 ya2 cf cs)) (bs := []) rfl rfl rfl ?_
        simp only [q2]
        refine XG.callSp (r := some (.int (nI (pcN (mkN (slpB (snR (vQ v a lv q) (aQ a) lv (S.1 23) (S.1 24) (S.1 31) (a 54) nn) (nI (S.1 35))) (S.1 24)) 6)))) eX8_then_144 kl_X8_206 (con_bitCount (d - 1) (mkN (slpB (snR (vQ v a lv q) (aQ a) lv (S.1 23) (S.1 24) (S.1 31) (a 54) nn) (nI (S.1 35))) (S.1 24)) (by omega)) (px_fitS (by omega)) rfl rfl rfl rfl (Nat.le_of_ble_eq_true rfl) ?_
        refine XS.iret eX8_then_147 rfl rfl ?_
        have ew : what = nI 2 := sw_eq (Nat.le_of_ble_eq_true rfl) h72
        refine ⟨_, _, _, _, rfl, (chg.up (by decide)), ?_⟩
        rw [if_pos ⟨hn, ⟨by rw [ew]; decide, by rw [ew]; decide⟩, hw0, hw1⟩]
        unfold qThen
        rw [swF_in 2 h72 rfl (Nat.le_of_ble_eq_true rfl)]
        rw [show a 35 lv = nI (S.1 35) from hX.dw.2.2, asl_mk (snR (vQ v a lv q) (aQ a) lv (S.1 23) (S.1 24) (S.1 31) (a 54) nn) (nI (S.1 35)) hsl2, bits_pc ⟨_, hmS⟩]
      · cases hj72
        refine XG.blk tX8_then_ok 55 7 (pc' := 163) (pl' := [some (.ref 0), some (.int (nI nn)), some (.int q), some (.int what), some (.int which)]) (st' := [(.int ((yv2 3) - (nv 3)))]) (W1 := (sW bv tv (va_up ta 22 sk2) tb uv ua ub rv ra rb rt se2 pv pa gv ga ov oa qv qa hv ha nv na yv2 ya2 cf cs)) (bs := []) rfl rfl rfl ?_
        refine XS.iret eX8_then_163 rfl rfl ?_
        have ew : what = nI 3 := sw_eq (Nat.le_of_ble_eq_true rfl) h72
        refine ⟨_, _, _, _, rfl, (chg.up (by decide)), ?_⟩
        rw [if_pos ⟨hn, ⟨by rw [ew]; decide, by rw [ew]; decide⟩, hw0, hw1⟩]
        unfold qThen
        rw [swF_in 3 h72 rfl (Nat.le_of_ble_eq_true rfl)]
        exact congrArg (fun z => some (Value.int z)) (by rw [hN2.2.2.2.1, hN.2.2.2.1])
      · cases hj72
        refine XG.blk tX8_then_ok 63 5 (pc' := 174) (pl' := [some (.ref 0), some (.int (nI nn)), some (.int q), some (.int what), some (.int which)]) (st' := [(.int (nI 10)), (.ref 73), (.ref 37)]) (W1 := (sW bv tv (va_up ta 22 sk2) tb uv ua ub rv ra rb rt se2 pv pa gv ga ov oa qv qa hv ha nv na yv2 ya2 cf cs)) (bs := []) rfl rfl rfl ?_
        refine XG.callV (ro := [37, 38, 1, 2, 3, 4, 5, 6, 7, 8, 9, 10, 11, 12, 13, 14, 15, 73, 74, 75, 76, 77]) (W1 := (rW se2 tv (va_up ta 22 sk2) tb yv2 ya2)) eX8_then_174 kl_X8_148 (cc_crossersAt (d - 1) se2 tv (va_up ta 22 sk2) tb yv2 ya2 S lv (aQ a) hX2 (snR (vQ v a lv q) (aQ a) lv (S.1 23) (S.1 24) (S.1 31) (a 54) nn) hN2 (nI 10)) (px_fitS (by omega)) rfl ⟨rfl, by decide, by decide⟩ rfl rfl (Nat.le_of_ble_eq_true rfl) (fun r9 W9 hp9 hl9 => ?_)
        obtain ⟨rfl, rfl⟩ := hp9
        rw [bits_mk (snR (vQ v a lv q) (aQ a) lv (S.1 23) (S.1 24) (S.1 31) (a 54) nn) 18 (nI 10) (show S.1 31 ≤ 6 by omega)]
        have hm10 : mkN (fun k => decide ((snR (vQ v a lv q) (aQ a) lv (S.1 23) (S.1 24) (S.1 31) (a 54) nn) (18 + k) = nI 10)) (S.1 31) < 64 := mkN_64 (by omega)
        rw [pt_sry]
        show XG _ _ _ _ _ _ [(.int (nI (mkN (fun k => decide ((snR (vQ v a lv q) (aQ a) lv (S.1 23) (S.1 24) (S.1 31) (a 54) nn) (18 + k) = nI 10)) (S.1 31))))] (sW bv tv (va_up ta 22 sk2) tb uv ua ub rv ra rb rt se2 pv pa gv ga ov oa qv qa hv ha nv na yv2 ya2 cf cs)
        refine XG.callSp (r := some (.int (nI (pcN (mkN (fun k => decide ((snR (vQ v a lv q) (aQ a) lv (S.1 23) (S.1 24) (S.1 31) (a 54) nn) (18 + k) = nI 10)) (S.1 31)) 6)))) eX8_then_177 kl_X8_206 (con_bitCount (d - 1) (mkN (fun k => decide ((snR (vQ v a lv q) (aQ a) lv (S.1 23) (S.1 24) (S.1 31) (a 54) nn) (18 + k) = nI 10)) (S.1 31)) (by omega)) (px_fitS (by omega)) rfl rfl rfl rfl (Nat.le_of_ble_eq_true rfl) ?_
        refine XS.iret eX8_then_180 rfl rfl ?_
        have ew : what = nI 4 := sw_eq (Nat.le_of_ble_eq_true rfl) h72
        refine ⟨_, _, _, _, rfl, (chg.up (by decide)), ?_⟩
        rw [if_pos ⟨hn, ⟨by rw [ew]; decide, by rw [ew]; decide⟩, hw0, hw1⟩]
        unfold qThen
        rw [swF_in 4 h72 rfl (Nat.le_of_ble_eq_true rfl)]
        rw [bits_mk (snR (vQ v a lv q) (aQ a) lv (S.1 23) (S.1 24) (S.1 31) (a 54) nn) 18 (nI 10) (show S.1 31 ≤ 6 by omega), bits_pc ⟨_, hm10⟩]
      · cases hj72
        refine XG.blk tX8_then_ok 71 4 (pc' := 189) (pl' := [some (.ref 0), some (.int (nI nn)), some (.int q), some (.int what), some (.int which)]) (st' := [(.ref 73), (.ref 37)]) (W1 := (sW bv tv (va_up ta 22 sk2) tb uv ua ub rv ra rb rt se2 pv pa gv ga ov oa qv qa hv ha nv na yv2 ya2 cf cs)) (bs := []) rfl rfl rfl ?_
        refine XG.callV (ro := [37, 38, 1, 2, 3, 4, 5, 6, 7, 8, 9, 10, 11, 12, 13, 14, 15, 73, 74, 75, 76, 77]) (W1 := (rW se2 tv (va_up ta 22 sk2) tb yv2 ya2)) eX8_then_189 kl_X8_214 (cc_leastBorne (d - 1) se2 tv (va_up ta 22 sk2) tb yv2 ya2 S lv (aQ a) hX2 (snR (vQ v a lv q) (aQ a) lv (S.1 23) (S.1 24) (S.1 31) (a 54) nn) hN2 (by omega)) (px_fitS (by omega)) rfl ⟨rfl, by decide, by decide⟩ rfl rfl (Nat.le_of_ble_eq_true rfl) (fun r9 W9 hp9 hl9 => ?_)
        obtain ⟨se3, sk3, rfl, rfl⟩ := hp9
        rw [pt_sry]
        show XG _ _ _ _ _ _ [(.int (lR (aQ a) lv (S.1 23) (S.1 24) (S.1 31) (snR (vQ v a lv q) (aQ a) lv (S.1 23) (S.1 24) (S.1 31) (a 54) nn)))] (sW bv tv (va_up ta 22 sk3) tb uv ua ub rv ra rb rt se3 pv pa gv ga ov oa qv qa hv ha nv na yv2 ya2 cf cs)
        refine XS.iret eX8_then_192 rfl rfl ?_
        have ew : what = nI 5 := sw_eq (Nat.le_of_ble_eq_true rfl) h72
        refine ⟨_, _, _, _, rfl, (chg.up (by decide)), ?_⟩
        rw [if_pos ⟨hn, ⟨by rw [ew]; decide, by rw [ew]; decide⟩, hw0, hw1⟩]
        unfold qThen
        rw [swF_out (m := 4) (Or.inr (by omega)) rfl]
  refine Con.of (by decide) (Nat.le_of_ble_eq_true rfl) ?_
  refine XG.blk tX8_then_ok 0 1 (pc' := 1) (pl' := [some (.ref 0), some (.int (nI nn)), some (.int q), some (.int what), some (.int which)]) (st' := [(.int (nI nn))]) (W1 := (sW bv tv ta tb uv ua ub rv ra rb rt se pv pa gv ga ov oa qv qa hv ha nv na yv ya cf cs)) (bs := []) rfl rfl rfl ?_
  refine XG.br eX8_then_1 (P := (nI nn) < 0) (r := []) rfl (tgt := 37) (by decide) (fun h1 => ?_) (fun h1 => ?_)
  · exfalso
    have g1 : nn < 0 := (nI_ltI (a := nn) (b := 0) (by omega) (by omega)).mp h1
    omega
  · skip
    have g1 : ¬ nn < 0 := (fun z_9 => h1 ((nI_ltI (a := nn) (b := 0) (by omega) (by omega)).mpr z_9))
    refine XG.blk tX8_then_ok 2 2 (pc' := 7) (pl' := [some (.ref 0), some (.int (nI nn)), some (.int q), some (.int what), some (.int which)]) (st' := [(.int (nI 99)), (.int (nI nn))]) (W1 := (sW bv tv ta tb uv ua ub rv ra rb rt se pv pa gv ga ov oa qv qa hv ha nv na yv ya cf cs)) (bs := []) rfl rfl rfl ?_
    refine XG.br eX8_then_7 (P := (nI 99) < (nI nn)) (r := []) rfl (tgt := 37) (by decide) (fun h7 => ?_) (fun h7 => ?_)
    · exfalso
      have g7 : 99 < nn := (nI_ltI (a := 99) (b := nn) (by omega) (by omega)).mp h7
      omega
    · skip
      have g7 : ¬ 99 < nn := (fun z_9 => h7 ((nI_ltI (a := 99) (b := nn) (by omega) (by omega)).mpr z_9))
      refine XG.blk tX8_then_ok 5 1 (pc' := 11) (pl' := [some (.ref 0), some (.int (nI nn)), some (.int q), some (.int what), some (.int which)]) (st' := [(.int what)]) (W1 := (sW bv tv ta tb uv ua ub rv ra rb rt se pv pa gv ga ov oa qv qa hv ha nv na yv ya cf cs)) (bs := []) rfl rfl rfl ?_
      refine XG.br eX8_then_11 (P := ¬ what = 0) (r := []) rfl (tgt := 23) (by decide) (fun h11 => ?_) (fun h11 => ?_)
      · skip
        refine XG.blk tX8_then_ok 11 2 (pc' := 25) (pl' := [some (.ref 0), some (.int (nI nn)), some (.int q), some (.int what), some (.int which)]) (st' := [(.int (nI 1)), (.int what)]) (W1 := (sW bv tv ta tb uv ua ub rv ra rb rt se pv pa gv ga ov oa qv qa hv ha nv na yv ya cf cs)) (bs := []) rfl rfl rfl ?_
        refine XG.br eX8_then_25 (P := ¬ what = (nI 1)) (r := []) rfl (tgt := 40) (by decide) (fun h25 => ?_) (fun h25 => ?_)
        · skip
          exact hT (fun w => by first | exact absurd w h11 | exact (hX.isC which).mp (is_ne h20)) (fun w => by first | exact absurd w h25 | exact (hX.isP which).mp (is_ne h34))
        · skip
          have h25 := Decidable.not_not.mp h25
          refine XG.blk tX8_then_ok 14 2 (pc' := 31) (pl' := [some (.ref 0), some (.int (nI nn)), some (.int q), some (.int what), some (.int which)]) (st' := [(.int which), (.ref 0)]) (W1 := (sW bv tv ta tb uv ua ub rv ra rb rt se pv pa gv ga ov oa qv qa hv ha nv na yv ya cf cs)) (bs := []) rfl rfl rfl ?_
          refine XG.callV0 eX8_then_31 kl_X8_136 (cs_isSpan (d - 1) bv tv ta tb uv ua ub rv ra rb rt se pv pa gv ga ov oa qv qa hv ha nv na yv ya cf cs which) (px_fitS (by omega)) rfl rfl rfl (Nat.le_of_ble_eq_true rfl) (fun r9 W9 hp9 hl9 => ?_)
          obtain ⟨rfl, rfl⟩ := hp9
          refine XG.br eX8_then_34 (P := ¬ (if 0 ≤ which ∧ which < tv 0 then 1 else 0) = 0) (r := []) rfl (tgt := 40) (by decide) (fun h34 => ?_) (fun h34 => ?_)
          · skip
            exact hT (fun w => by first | exact absurd w h11 | exact (hX.isC which).mp (is_ne h20)) (fun w => by first | exact absurd w h25 | exact (hX.isP which).mp (is_ne h34))
          · skip
            have h34 := Decidable.not_not.mp h34
            refine XG.blk tX8_then_ok 18 1 (pc' := 39) (pl' := [some (.ref 0), some (.int (nI nn)), some (.int q), some (.int what), some (.int which)]) (st' := [(.int (-100))]) (W1 := (sW bv tv ta tb uv ua ub rv ra rb rt se pv pa gv ga ov oa qv qa hv ha nv na yv ya cf cs)) (bs := []) rfl rfl rfl ?_
            refine XS.iret eX8_then_39 rfl rfl ?_
            refine ⟨_, _, _, _, rfl, chg.rf, ?_⟩
            rw [if_neg (fun w => by first | exact one_ne.mp h20 ((hX.isC which).mpr (w.2.2.1 h11)) | exact one_ne.mp h34 ((hX.isP which).mpr (w.2.2.2 h25)))]
      · skip
        have h11 := Decidable.not_not.mp h11
        refine XG.blk tX8_then_ok 7 2 (pc' := 17) (pl' := [some (.ref 0), some (.int (nI nn)), some (.int q), some (.int what), some (.int which)]) (st' := [(.int which), (.ref 0)]) (W1 := (sW bv tv ta tb uv ua ub rv ra rb rt se pv pa gv ga ov oa qv qa hv ha nv na yv ya cf cs)) (bs := []) rfl rfl rfl ?_
        refine XG.callV0 eX8_then_17 kl_X8_118 (cs_isCrosser (d - 1) bv tv ta tb uv ua ub rv ra rb rt se pv pa gv ga ov oa qv qa hv ha nv na yv ya cf cs which) (px_fitS (by omega)) rfl rfl rfl (Nat.le_of_ble_eq_true rfl) (fun r9 W9 hp9 hl9 => ?_)
        obtain ⟨rfl, rfl⟩ := hp9
        refine XG.br eX8_then_20 (P := (if 0 ≤ which ∧ which < tv 3 then 1 else 0) = 0) (r := []) rfl (tgt := 37) (by decide) (fun h20 => ?_) (fun h20 => ?_)
        · skip
          refine XG.blk tX8_then_ok 18 1 (pc' := 39) (pl' := [some (.ref 0), some (.int (nI nn)), some (.int q), some (.int what), some (.int which)]) (st' := [(.int (-100))]) (W1 := (sW bv tv ta tb uv ua ub rv ra rb rt se pv pa gv ga ov oa qv qa hv ha nv na yv ya cf cs)) (bs := []) rfl rfl rfl ?_
          refine XS.iret eX8_then_39 rfl rfl ?_
          refine ⟨_, _, _, _, rfl, chg.rf, ?_⟩
          rw [if_neg (fun w => by first | exact one_ne.mp h20 ((hX.isC which).mpr (w.2.2.1 h11)) | exact one_ne.mp h34 ((hX.isP which).mpr (w.2.2.2 h25)))]
        · skip
          refine XG.blk tX8_then_ok 11 2 (pc' := 25) (pl' := [some (.ref 0), some (.int (nI nn)), some (.int q), some (.int what), some (.int which)]) (st' := [(.int (nI 1)), (.int what)]) (W1 := (sW bv tv ta tb uv ua ub rv ra rb rt se pv pa gv ga ov oa qv qa hv ha nv na yv ya cf cs)) (bs := []) rfl rfl rfl ?_
          refine XG.br eX8_then_25 (P := ¬ what = (nI 1)) (r := []) rfl (tgt := 40) (by decide) (fun h25 => ?_) (fun h25 => ?_)
          · skip
            exact hT (fun w => by first | exact absurd w h11 | exact (hX.isC which).mp (is_ne h20)) (fun w => by first | exact absurd w h25 | exact (hX.isP which).mp (is_ne h34))
          · skip
            have h25 := Decidable.not_not.mp h25
            refine XG.blk tX8_then_ok 14 2 (pc' := 31) (pl' := [some (.ref 0), some (.int (nI nn)), some (.int q), some (.int what), some (.int which)]) (st' := [(.int which), (.ref 0)]) (W1 := (sW bv tv ta tb uv ua ub rv ra rb rt se pv pa gv ga ov oa qv qa hv ha nv na yv ya cf cs)) (bs := []) rfl rfl rfl ?_
            refine XG.callV0 eX8_then_31 kl_X8_136 (cs_isSpan (d - 1) bv tv ta tb uv ua ub rv ra rb rt se pv pa gv ga ov oa qv qa hv ha nv na yv ya cf cs which) (px_fitS (by omega)) rfl rfl rfl (Nat.le_of_ble_eq_true rfl) (fun r9 W9 hp9 hl9 => ?_)
            obtain ⟨rfl, rfl⟩ := hp9
            refine XG.br eX8_then_34 (P := ¬ (if 0 ≤ which ∧ which < tv 0 then 1 else 0) = 0) (r := []) rfl (tgt := 40) (by decide) (fun h34 => ?_) (fun h34 => ?_)
            · skip
              exact hT (fun w => by first | exact absurd w h11 | exact (hX.isC which).mp (is_ne h20)) (fun w => by first | exact absurd w h25 | exact (hX.isP which).mp (is_ne h34))
            · skip
              have h34 := Decidable.not_not.mp h34
              refine XG.blk tX8_then_ok 18 1 (pc' := 39) (pl' := [some (.ref 0), some (.int (nI nn)), some (.int q), some (.int what), some (.int which)]) (st' := [(.int (-100))]) (W1 := (sW bv tv ta tb uv ua ub rv ra rb rt se pv pa gv ga ov oa qv qa hv ha nv na yv ya cf cs)) (bs := []) rfl rfl rfl ?_
              refine XS.iret eX8_then_39 rfl rfl ?_
              refine ⟨_, _, _, _, rfl, chg.rf, ?_⟩
              rw [if_neg (fun w => by first | exact one_ne.mp h20 ((hX.isC which).mpr (w.2.2.1 h11)) | exact one_ne.mp h34 ((hX.isP which).mpr (w.2.2.2 h25)))]
set_option maxHeartbeats 1000000 in
theorem cs_thenO (d : Nat) (bv : Nat → Int32) (tv : Nat → Int32) (ta : Nat → Nat → Int32) (tb : Nat → Nat → Int64) (uv : Nat → Int32) (ua : Nat → Nat → Int32) (ub : Nat → Nat → Int64) (rv : Nat → Int32) (ra : Nat → Nat → Int32) (rb : Nat → Nat → Int64) (rt : Value) (se : Nat → Int32) (pv : Nat → Int32) (pa : Nat → Nat → Int32) (gv : Nat → Int32) (ga : Nat → Nat → Int32) (ov : Nat → Int32) (oa : Nat → Nat → Int32) (qv : Nat → Int32) (qa : Nat → Nat → Int32) (hv : Nat → Int32) (ha : Nat → Nat → Int32) (nv : Nat → Int32) (na : Nat → Nat → Int32) (yv : Nat → Int32) (ya : Nat → Nat → Int32) (cf : Nat → Int32) (cs : Nat → Int32) (S : SD) (lv : Nat) (v : Nat → Int32) (a : Nat → Nat → Int32) (hX : CX S lv (aQ a) tv ta) (hN : CNt S (a 54) nv na) (p : Int32) (hp : ¬ px_vb p 100 = true) (q what which : Int32) (hd : 8 ≤ d) : Con mX8_then d [.ref 0, .int p, .int q, .int what, .int which] (sW bv tv ta tb uv ua ub rv ra rb rt se pv pa gv ga ov oa qv qa hv ha nv na yv ya cf cs) (fun r W' => ∃ yv' ya' se' ta', W' = (sW bv tv ta' tb uv ua ub rv ra rb rt se' pv pa gv ga ov oa qv qa hv ha nv na yv' ya' cf cs) ∧ chg [22] ta ta' ∧ r = some (.int (-100))) := by
  refine Con.of (by decide) (Nat.le_of_ble_eq_true rfl) ?_
  refine XG.blk tX8_then_ok 0 1 (pc' := 1) (pl' := [some (.ref 0), some (.int p), some (.int q), some (.int what), some (.int which)]) (st' := [(.int p)]) (W1 := (sW bv tv ta tb uv ua ub rv ra rb rt se pv pa gv ga ov oa qv qa hv ha nv na yv ya cf cs)) (bs := []) rfl rfl rfl ?_
  refine XG.br eX8_then_1 (P := p < 0) (r := []) rfl (tgt := 37) (by decide) (fun h1 => ?_) (fun h1 => ?_)
  · skip
    refine XG.blk tX8_then_ok 18 1 (pc' := 39) (pl' := [some (.ref 0), some (.int p), some (.int q), some (.int what), some (.int which)]) (st' := [(.int (-100))]) (W1 := (sW bv tv ta tb uv ua ub rv ra rb rt se pv pa gv ga ov oa qv qa hv ha nv na yv ya cf cs)) (bs := []) rfl rfl rfl ?_
    refine XS.iret eX8_then_39 rfl rfl ?_
    exact ⟨_, _, _, _, rfl, chg.rf, rfl⟩
  · skip
    refine XG.blk tX8_then_ok 2 2 (pc' := 7) (pl' := [some (.ref 0), some (.int p), some (.int q), some (.int what), some (.int which)]) (st' := [(.int (nI 99)), (.int p)]) (W1 := (sW bv tv ta tb uv ua ub rv ra rb rt se pv pa gv ga ov oa qv qa hv ha nv na yv ya cf cs)) (bs := []) rfl rfl rfl ?_
    refine XG.br eX8_then_7 (P := (nI 99) < p) (r := []) rfl (tgt := 37) (by decide) (fun h7 => ?_) (fun h7 => ?_)
    · skip
      refine XG.blk tX8_then_ok 18 1 (pc' := 39) (pl' := [some (.ref 0), some (.int p), some (.int q), some (.int what), some (.int which)]) (st' := [(.int (-100))]) (W1 := (sW bv tv ta tb uv ua ub rv ra rb rt se pv pa gv ga ov oa qv qa hv ha nv na yv ya cf cs)) (bs := []) rfl rfl rfl ?_
      refine XS.iret eX8_then_39 rfl rfl ?_
      exact ⟨_, _, _, _, rfl, chg.rf, rfl⟩
    · exfalso
      exact hp (vb_n (m := 99) (Nat.le_of_ble_eq_true rfl) h1 h7)
theorem cs_then (d : Nat) (bv : Nat → Int32) (tv : Nat → Int32) (ta : Nat → Nat → Int32) (tb : Nat → Nat → Int64) (uv : Nat → Int32) (ua : Nat → Nat → Int32) (ub : Nat → Nat → Int64) (rv : Nat → Int32) (ra : Nat → Nat → Int32) (rb : Nat → Nat → Int64) (rt : Value) (se : Nat → Int32) (pv : Nat → Int32) (pa : Nat → Nat → Int32) (gv : Nat → Int32) (ga : Nat → Nat → Int32) (ov : Nat → Int32) (oa : Nat → Nat → Int32) (qv : Nat → Int32) (qa : Nat → Nat → Int32) (hv : Nat → Int32) (ha : Nat → Nat → Int32) (nv : Nat → Int32) (na : Nat → Nat → Int32) (yv : Nat → Int32) (ya : Nat → Nat → Int32) (cf : Nat → Int32) (cs : Nat → Int32) (S : SD) (lv : Nat) (v : Nat → Int32) (a : Nat → Nat → Int32) (hX : CX S lv (aQ a) tv ta) (hN : CNt S (a 54) nv na) (H : Nat) (hGR : GR S H (a 54)) (hH : H ≤ 50000) (n q what which : Int32) (hd : 8 ≤ d) : Con mX8_then d [.ref 0, .int n, .int q, .int what, .int which] (sW bv tv ta tb uv ua ub rv ra rb rt se pv pa gv ga ov oa qv qa hv ha nv na yv ya cf cs) (fun r W' => ∃ yv' ya' se' ta', W' = (sW bv tv ta' tb uv ua ub rv ra rb rt se' pv pa gv ga ov oa qv qa hv ha nv na yv' ya' cf cs) ∧ chg [22] ta ta' ∧ r = some (.int (if okThen (S.1 23) (S.1 31) n what which then qThen v a lv (S.1 23) (S.1 24) (S.1 31) n.toNatClampNeg q what which else -100))) := by
  by_cases hp : px_vb n 100 = true
  · obtain ⟨x, hx, rfl⟩ := px_vb_ex hp (by omega)
    rw [nI_clamp (show x < 2 ^ 31 by omega)]
    exact cs_thenI d bv tv ta tb uv ua ub rv ra rb rt se pv pa gv ga ov oa qv qa hv ha nv na yv ya cf cs S lv v a hX hN H hGR hH x hx q what which hd
  · rw [if_neg (fun w => hp w.1)]
    exact cs_thenO d bv tv ta tb uv ua ub rv ra rb rt se pv pa gv ga ov oa qv qa hv ha nv na yv ya cf cs S lv v a hX hN n hp q what which hd
