/-! THE CLASS ITSELF: sleeper -/
theorem bit_all : ∀ m : Fin 64, ∀ j : Fin 6, (nI m.val >>> (nI j.val &&& 31)) &&& nI 1 = if m.val.testBit j.val = true then 1 else 0 := by decide +kernel
theorem asl_v {S : SD} {lv : Nat} {a : Nat → Nat → Int32} {tv : Nat → Int32} {ta : Nat → Nat → Int32} {nv : Nat → Int32} {na : Nat → Nat → Int32} (hX : CX S lv (aQ a) tv ta) (hN : CNt S (a 54) nv na) {x : Nat} (hx : x < S.1 24) : (nv 4 >>> (nI x &&& 31)) &&& nI 1 = if slp (a 54) (a 35 lv) x then 1 else 0 := by
  have hsl := hX.sl.2
  have hd : a 35 lv = nI (S.1 35) := hX.dw.2.2
  have hM : mkN (slpB (a 54) (nI (S.1 35))) (S.1 24) < 64 := Nat.lt_of_lt_of_le (mkN_lt _ _) (Nat.pow_le_pow_right (by decide) hsl)
  rw [hN.2.2.2.2.1, hd, bit_all ⟨_, hM⟩ ⟨x, by omega⟩]
  show (if (mkN (slpB (a 54) (nI (S.1 35))) (S.1 24)).testBit x = true then (1 : Int32) else 0) = _
  by_cases h : slp (a 54) (nI (S.1 35)) x
  · rw [if_pos h, if_pos ((asl_bit hx).mpr h)]
  · rw [if_neg h, if_neg (fun w => h ((asl_bit hx).mp w))]
set_option maxHeartbeats 1000000 in
theorem cs_sleeperI (d : Nat) (bv : Nat → Int32) (tv : Nat → Int32) (ta : Nat → Nat → Int32) (tb : Nat → Nat → Int64) (uv : Nat → Int32) (ua : Nat → Nat → Int32) (ub : Nat → Nat → Int64) (rv : Nat → Int32) (ra : Nat → Nat → Int32) (rb : Nat → Nat → Int64) (rt : Value) (se : Nat → Int32) (pv : Nat → Int32) (pa : Nat → Nat → Int32) (gv : Nat → Int32) (ga : Nat → Nat → Int32) (ov : Nat → Int32) (oa : Nat → Nat → Int32) (qv : Nat → Int32) (qa : Nat → Nat → Int32) (hv : Nat → Int32) (ha : Nat → Nat → Int32) (nv : Nat → Int32) (na : Nat → Nat → Int32) (yv : Nat → Int32) (ya : Nat → Nat → Int32) (cf : Nat → Int32) (cs : Nat → Int32) (S : SD) (lv : Nat) (a : Nat → Nat → Int32) (hX : CX S lv (aQ a) tv ta) (hN : CNt S (a 54) nv na) (x : Nat) (hx : x < S.1 24) (what : Int32) (hd : 4 ≤ d) : Con mX8_sleeper d [.ref 0, .int (nI x), .int what] (sW bv tv ta tb uv ua ub rv ra rb rt se pv pa gv ga ov oa qv qa hv ha nv na yv ya cf cs) (fun r W' => ∃ se' ta', W' = (sW bv tv ta' tb uv ua ub rv ra rb rt se' pv pa gv ga ov oa qv qa hv ha nv na yv ya cf cs) ∧ chg [22] ta ta' ∧ r = some (.int (qSleeper a lv (S.1 24) (S.1 31) x what))) := by
  obtain ⟨hsp, hsp1, hsp2⟩ := hX.sp
  obtain ⟨hsl, hsl2⟩ := hX.sl
  obtain ⟨hcr, hcr2⟩ := hX.cr
  have hin : 0 ≤ nI x ∧ nI x < tv 1 := by rw [hsl]; exact in_S hx (by omega)
  refine Con.of (by decide) (Nat.le_of_ble_eq_true rfl) ?_
  refine XG.blk tX8_sleeper_ok 0 2 (pc' := 2) (pl' := [some (.ref 0), some (.int (nI x)), some (.int what)]) (st' := [(.int (nI x)), (.ref 0)]) (W1 := (sW bv tv ta tb uv ua ub rv ra rb rt se pv pa gv ga ov oa qv qa hv ha nv na yv ya cf cs)) (bs := []) rfl rfl rfl ?_
  refine XG.callV0 eX8_sleeper_2 kl_X8_94 (cs_isSleeper (d - 1) bv tv ta tb uv ua ub rv ra rb rt se pv pa gv ga ov oa qv qa hv ha nv na yv ya cf cs (nI x)) (px_fitS (by omega)) rfl rfl rfl (Nat.le_of_ble_eq_true rfl) (fun r9 W9 hp9 hl9 => ?_)
  obtain ⟨rfl, rfl⟩ := hp9
  refine XG.br eX8_sleeper_5 (P := ¬ (if 0 ≤ (nI x) ∧ (nI x) < tv 1 then 1 else 0) = 0) (r := []) rfl (tgt := 10) (by decide) (fun h5 => ?_) (fun h5 => ?_)
  · skip
    refine XG.blk tX8_sleeper_ok 6 1 (pc' := 11) (pl' := [some (.ref 0), some (.int (nI x)), some (.int what)]) (st' := [(.int what)]) (W1 := (sW bv tv ta tb uv ua ub rv ra rb rt se pv pa gv ga ov oa qv qa hv ha nv na yv ya cf cs)) (bs := []) rfl rfl rfl ?_
    refine XG.tsw eX8_sleeper_11 (td := 113) (by decide) (tg := [48, 58, 68, 78, 88, 100]) (by decide) (by decide) (fun h11 => ?_) (fun j11 t11 hj11 h11 => ?_)
    · skip
      refine XG.blk tX8_sleeper_ok 47 1 (pc' := 114) (pl' := [some (.ref 0), some (.int (nI x)), some (.int what)]) (st' := [(.int (-1))]) (W1 := (sW bv tv ta tb uv ua ub rv ra rb rt se pv pa gv ga ov oa qv qa hv ha nv na yv ya cf cs)) (bs := []) rfl rfl rfl ?_
      refine XS.iret eX8_sleeper_114 rfl rfl ?_
      exact ⟨_, _, rfl, chg.rf, by unfold qSleeper; rw [swF_out h11 rfl]⟩
    · have hl11 : j11 < 6 := (List.getElem?_eq_some_iff.mp hj11).1
      rcases (show j11 = 0 ∨ j11 = 1 ∨ j11 = 2 ∨ j11 = 3 ∨ j11 = 4 ∨ j11 = 5 by omega) with rfl | rfl | rfl | rfl | rfl | rfl
      · cases hj11
        have q1 : (nI x).toNatClampNeg = x := nI_clamp (by omega)
        refine XG.blk tX8_sleeper_ok 8 5 (pc' := 57) (pl' := [some (.ref 0), some (.int (nI x)), some (.int what)]) (st' := [(.int ((na 5) (nI x).toNatClampNeg))]) (W1 := (sW bv tv ta tb uv ua ub rv ra rb rt se pv pa gv ga ov oa qv qa hv ha nv na yv ya cf cs)) (bs := [px_vb (nI x) 6]) rfl rfl (by (try simp only [q1]); exact (px_all (px_vbN (by omega) (by decide)) rfl)) ?_
        simp only [q1]
        refine XS.iret eX8_sleeper_57 rfl rfl ?_
        exact ⟨_, _, rfl, chg.rf, by unfold qSleeper; rw [swF_in 0 h11 rfl (Nat.le_of_ble_eq_true rfl)]; exact congrArg (fun z => some (Value.int z)) ((hN.2.2.2.2.2.1 x hx).1)⟩
      · cases hj11
        have q2 : (nI x).toNatClampNeg = x := nI_clamp (by omega)
        refine XG.blk tX8_sleeper_ok 14 5 (pc' := 67) (pl' := [some (.ref 0), some (.int (nI x)), some (.int what)]) (st' := [(.int ((ta 9) (nI x).toNatClampNeg))]) (W1 := (sW bv tv ta tb uv ua ub rv ra rb rt se pv pa gv ga ov oa qv qa hv ha nv na yv ya cf cs)) (bs := [px_vb (nI x) 6]) rfl rfl (by (try simp only [q2]); exact (px_all (px_vbN (by omega) (by decide)) rfl)) ?_
        simp only [q2]
        refine XS.iret eX8_sleeper_67 rfl rfl ?_
        exact ⟨_, _, rfl, chg.rf, by unfold qSleeper; rw [swF_in 1 h11 rfl (Nat.le_of_ble_eq_true rfl)]; exact congrArg (fun z => some (Value.int z)) ((hX.slo hx).2.1)⟩
      · cases hj11
        have q3 : (nI x).toNatClampNeg = x := nI_clamp (by omega)
        refine XG.blk tX8_sleeper_ok 20 5 (pc' := 77) (pl' := [some (.ref 0), some (.int (nI x)), some (.int what)]) (st' := [(.int ((ta 10) (nI x).toNatClampNeg))]) (W1 := (sW bv tv ta tb uv ua ub rv ra rb rt se pv pa gv ga ov oa qv qa hv ha nv na yv ya cf cs)) (bs := [px_vb (nI x) 6]) rfl rfl (by (try simp only [q3]); exact (px_all (px_vbN (by omega) (by decide)) rfl)) ?_
        simp only [q3]
        refine XS.iret eX8_sleeper_77 rfl rfl ?_
        exact ⟨_, _, rfl, chg.rf, by unfold qSleeper; rw [swF_in 2 h11 rfl (Nat.le_of_ble_eq_true rfl)]; exact congrArg (fun z => some (Value.int z)) ((hX.slo hx).2.2.1)⟩
      · cases hj11
        have q4 : (nI x).toNatClampNeg = x := nI_clamp (by omega)
        refine XG.blk tX8_sleeper_ok 26 5 (pc' := 87) (pl' := [some (.ref 0), some (.int (nI x)), some (.int what)]) (st' := [(.int ((na 6) (nI x).toNatClampNeg))]) (W1 := (sW bv tv ta tb uv ua ub rv ra rb rt se pv pa gv ga ov oa qv qa hv ha nv na yv ya cf cs)) (bs := [px_vb (nI x) 6]) rfl rfl (by (try simp only [q4]); exact (px_all (px_vbN (by omega) (by decide)) rfl)) ?_
        simp only [q4]
        refine XS.iret eX8_sleeper_87 rfl rfl ?_
        exact ⟨_, _, rfl, chg.rf, by unfold qSleeper; rw [swF_in 3 h11 rfl (Nat.le_of_ble_eq_true rfl)]; exact congrArg (fun z => some (Value.int z)) ((hN.2.2.2.2.2.1 x hx).2)⟩
      · cases hj11
        refine XG.blk tX8_sleeper_ok 32 7 (pc' := 99) (pl' := [some (.ref 0), some (.int (nI x)), some (.int what)]) (st' := [(.int (((nv 4) >>> ((nI x) &&& 31)) &&& (nI 1)))]) (W1 := (sW bv tv ta tb uv ua ub rv ra rb rt se pv pa gv ga ov oa qv qa hv ha nv na yv ya cf cs)) (bs := []) rfl rfl rfl ?_
        refine XS.iret eX8_sleeper_99 rfl rfl ?_
        exact ⟨_, _, rfl, chg.rf, by unfold qSleeper; rw [swF_in 4 h11 rfl (Nat.le_of_ble_eq_true rfl)]; exact congrArg (fun z => some (Value.int z)) (asl_v hX hN hx)⟩
      · cases hj11
        refine XG.blk tX8_sleeper_ok 40 5 (pc' := 109) (pl' := [some (.ref 0), some (.int (nI x)), some (.int what)]) (st' := [(.int (nI x)), (.ref 68), (.ref 37)]) (W1 := (sW bv tv ta tb uv ua ub rv ra rb rt se pv pa gv ga ov oa qv qa hv ha nv na yv ya cf cs)) (bs := []) rfl rfl rfl ?_
        refine XG.callV (ro := [37, 38, 1, 2, 3, 4, 5, 6, 7, 8, 9, 10, 11, 12, 13, 14, 15, 68, 69, 70, 71, 72]) (W1 := (rW se tv ta tb nv na)) eX8_sleeper_109 kl_X8_114 (cc_held (d - 1) se tv ta tb nv na S lv (aQ a) hX (a 54) hN x hx (by omega)) (px_fitS (by omega)) rfl ⟨rfl, by decide, by decide⟩ rfl rfl (Nat.le_of_ble_eq_true rfl) (fun r9 W9 hp9 hl9 => ?_)
        obtain ⟨se1, sk1, rfl, rfl⟩ := hp9
        rw [pt_srn]
        show XG _ _ _ _ _ _ [(.int (hR (aQ a) lv (S.1 24) (S.1 31) (a 54) x))] (sW bv tv (va_up ta 22 sk1) tb uv ua ub rv ra rb rt se1 pv pa gv ga ov oa qv qa hv ha nv na yv ya cf cs)
        refine XS.iret eX8_sleeper_112 rfl rfl ?_
        exact ⟨_, _, rfl, (chg.up (by decide)), by unfold qSleeper; rw [swF_in 5 h11 rfl (Nat.le_of_ble_eq_true rfl)]; unfold hR; rw [aQ_up]⟩
  · exfalso
    have h5 := Decidable.not_not.mp h5
    exact absurd h5 (by rw [if_pos hin]; decide)
set_option maxHeartbeats 1000000 in
theorem cs_sleeperO (d : Nat) (bv : Nat → Int32) (tv : Nat → Int32) (ta : Nat → Nat → Int32) (tb : Nat → Nat → Int64) (uv : Nat → Int32) (ua : Nat → Nat → Int32) (ub : Nat → Nat → Int64) (rv : Nat → Int32) (ra : Nat → Nat → Int32) (rb : Nat → Nat → Int64) (rt : Value) (se : Nat → Int32) (pv : Nat → Int32) (pa : Nat → Nat → Int32) (gv : Nat → Int32) (ga : Nat → Nat → Int32) (ov : Nat → Int32) (oa : Nat → Nat → Int32) (qv : Nat → Int32) (qa : Nat → Nat → Int32) (hv : Nat → Int32) (ha : Nat → Nat → Int32) (nv : Nat → Int32) (na : Nat → Nat → Int32) (yv : Nat → Int32) (ya : Nat → Nat → Int32) (cf : Nat → Int32) (cs : Nat → Int32) (S : SD) (lv : Nat) (a : Nat → Nat → Int32) (hX : CX S lv (aQ a) tv ta) (hN : CNt S (a 54) nv na) (p : Int32) (hp : ¬ px_vb p (S.1 24) = true) (what : Int32) (hd : 4 ≤ d) : Con mX8_sleeper d [.ref 0, .int p, .int what] (sW bv tv ta tb uv ua ub rv ra rb rt se pv pa gv ga ov oa qv qa hv ha nv na yv ya cf cs) (fun r W' => ∃ se' ta', W' = (sW bv tv ta' tb uv ua ub rv ra rb rt se' pv pa gv ga ov oa qv qa hv ha nv na yv ya cf cs) ∧ chg [22] ta ta' ∧ r = some (.int (-1))) := by
  obtain ⟨hsp, hsp1, hsp2⟩ := hX.sp
  obtain ⟨hsl, hsl2⟩ := hX.sl
  obtain ⟨hcr, hcr2⟩ := hX.cr
  have hno : ¬ (0 ≤ p ∧ p < tv 1) := by rw [hsl]; exact fun w => hp (vb_S (by omega) w)
  refine Con.of (by decide) (Nat.le_of_ble_eq_true rfl) ?_
  refine XG.blk tX8_sleeper_ok 0 2 (pc' := 2) (pl' := [some (.ref 0), some (.int p), some (.int what)]) (st' := [(.int p), (.ref 0)]) (W1 := (sW bv tv ta tb uv ua ub rv ra rb rt se pv pa gv ga ov oa qv qa hv ha nv na yv ya cf cs)) (bs := []) rfl rfl rfl ?_
  refine XG.callV0 eX8_sleeper_2 kl_X8_94 (cs_isSleeper (d - 1) bv tv ta tb uv ua ub rv ra rb rt se pv pa gv ga ov oa qv qa hv ha nv na yv ya cf cs p) (px_fitS (by omega)) rfl rfl rfl (Nat.le_of_ble_eq_true rfl) (fun r9 W9 hp9 hl9 => ?_)
  obtain ⟨rfl, rfl⟩ := hp9
  refine XG.br eX8_sleeper_5 (P := ¬ (if 0 ≤ p ∧ p < tv 1 then 1 else 0) = 0) (r := []) rfl (tgt := 10) (by decide) (fun h5 => ?_) (fun h5 => ?_)
  · exfalso
    exact h5 (if_neg hno)
  · skip
    have h5 := Decidable.not_not.mp h5
    refine XG.blk tX8_sleeper_ok 4 1 (pc' := 9) (pl' := [some (.ref 0), some (.int p), some (.int what)]) (st' := [(.int (-1))]) (W1 := (sW bv tv ta tb uv ua ub rv ra rb rt se pv pa gv ga ov oa qv qa hv ha nv na yv ya cf cs)) (bs := []) rfl rfl rfl ?_
    refine XS.iret eX8_sleeper_9 rfl rfl ?_
    exact ⟨_, _, rfl, chg.rf, rfl⟩
theorem cs_sleeper (d : Nat) (bv : Nat → Int32) (tv : Nat → Int32) (ta : Nat → Nat → Int32) (tb : Nat → Nat → Int64) (uv : Nat → Int32) (ua : Nat → Nat → Int32) (ub : Nat → Nat → Int64) (rv : Nat → Int32) (ra : Nat → Nat → Int32) (rb : Nat → Nat → Int64) (rt : Value) (se : Nat → Int32) (pv : Nat → Int32) (pa : Nat → Nat → Int32) (gv : Nat → Int32) (ga : Nat → Nat → Int32) (ov : Nat → Int32) (oa : Nat → Nat → Int32) (qv : Nat → Int32) (qa : Nat → Nat → Int32) (hv : Nat → Int32) (ha : Nat → Nat → Int32) (nv : Nat → Int32) (na : Nat → Nat → Int32) (yv : Nat → Int32) (ya : Nat → Nat → Int32) (cf : Nat → Int32) (cs : Nat → Int32) (S : SD) (lv : Nat) (a : Nat → Nat → Int32) (hX : CX S lv (aQ a) tv ta) (hN : CNt S (a 54) nv na) (p what : Int32) (hd : 4 ≤ d) : Con mX8_sleeper d [.ref 0, .int p, .int what] (sW bv tv ta tb uv ua ub rv ra rb rt se pv pa gv ga ov oa qv qa hv ha nv na yv ya cf cs) (fun r W' => ∃ se' ta', W' = (sW bv tv ta' tb uv ua ub rv ra rb rt se' pv pa gv ga ov oa qv qa hv ha nv na yv ya cf cs) ∧ chg [22] ta ta' ∧ r = some (.int (ansB p (S.1 24) (fun x => qSleeper a lv (S.1 24) (S.1 31) x what) (-1)))) := by
  obtain ⟨hsp, hsp1, hsp2⟩ := hX.sp
  obtain ⟨hsl, hsl2⟩ := hX.sl
  obtain ⟨hcr, hcr2⟩ := hX.cr
  by_cases hp : px_vb p (S.1 24) = true
  · obtain ⟨x, hx, rfl⟩ := px_vb_ex hp (by omega)
    have eA : ansB (nI x) (S.1 24) (fun x => qSleeper a lv (S.1 24) (S.1 31) x what) (-1) = qSleeper a lv (S.1 24) (S.1 31) x what := by unfold ansB; rw [if_pos hp, nI_clamp (by omega)]
    rw [eA]
    exact cs_sleeperI d bv tv ta tb uv ua ub rv ra rb rt se pv pa gv ga ov oa qv qa hv ha nv na yv ya cf cs S lv a hX hN x hx what hd
  · have eA : (ansB p (S.1 24) (fun x => qSleeper a lv (S.1 24) (S.1 31) x what) (-1)) = (-1) := by unfold ansB; rw [if_neg hp]
    rw [eA]
    exact cs_sleeperO d bv tv ta tb uv ua ub rv ra rb rt se pv pa gv ga ov oa qv qa hv ha nv na yv ya cf cs S lv a hX hN p hp what hd
