/-! THE CLASS ITSELF: start -/
set_option maxHeartbeats 1000000 in
theorem cs_startI (d : Nat) (bv : Nat → Int32) (tv : Nat → Int32) (ta : Nat → Nat → Int32) (tb : Nat → Nat → Int64) (uv : Nat → Int32) (ua : Nat → Nat → Int32) (ub : Nat → Nat → Int64) (rv : Nat → Int32) (ra : Nat → Nat → Int32) (rb : Nat → Nat → Int64) (rt : Value) (se : Nat → Int32) (pv : Nat → Int32) (pa : Nat → Nat → Int32) (gv : Nat → Int32) (ga : Nat → Nat → Int32) (ov : Nat → Int32) (oa : Nat → Nat → Int32) (qv : Nat → Int32) (qa : Nat → Nat → Int32) (hv : Nat → Int32) (ha : Nat → Nat → Int32) (nv : Nat → Int32) (na : Nat → Nat → Int32) (yv : Nat → Int32) (ya : Nat → Nat → Int32) (cf : Nat → Int32) (cs : Nat → Int32) (S : SD) (lv : Nat) (v : Nat → Int32) (a : Nat → Nat → Int32) (hX : CX S lv (aQ a) tv ta) (hN : CNt S (a 54) nv na) (x : Nat) (hx : x < S.1 31) (h : Nat) (hh : a 54 28 = nI h) (hh2 : h ≤ 50000) (hGR : GR S h (a 54)) (hd : 8 ≤ d) : Con mX8_start d [.ref 0, .int (nI x)] (sW bv tv ta tb uv ua ub rv ra rb rt se pv pa gv ga ov oa qv qa hv ha nv na yv ya cf cs) (fun r W' => ∃ pv' pa' gv' ga' ov' oa' se' ta', W' = (sW bv tv ta' tb uv ua ub rv ra rb rt se' pv' pa' gv' ga' ov' oa' qv qa hv ha nv na yv ya cf cs) ∧ chg [22] ta ta' ∧ r = some (.int (qStart v a lv (S.1 23) (S.1 24) (S.1 31) x))) := by
  obtain ⟨hsp, hsp1, hsp2⟩ := hX.sp
  obtain ⟨hsl, hsl2⟩ := hX.sl
  obtain ⟨hcr, hcr2⟩ := hX.cr
  have hin : 0 ≤ nI x ∧ nI x < tv 3 := by rw [hcr]; exact in_S hx (by omega)
  have hw : na 7 x = a 54 (18 + x) := (hN.2.2.2.2.2.2 x (by omega)).1
  refine Con.of (by decide) (Nat.le_of_ble_eq_true rfl) ?_
  refine XG.blk tX8_start_ok 0 2 (pc' := 2) (pl' := [some (.ref 0), some (.int (nI x))]) (st' := [(.int (nI x)), (.ref 0)]) (W1 := (sW bv tv ta tb uv ua ub rv ra rb rt se pv pa gv ga ov oa qv qa hv ha nv na yv ya cf cs)) (bs := []) rfl rfl rfl ?_
  refine XG.callV0 eX8_start_2 kl_X8_118 (cs_isCrosser (d - 1) bv tv ta tb uv ua ub rv ra rb rt se pv pa gv ga ov oa qv qa hv ha nv na yv ya cf cs (nI x)) (px_fitS (by omega)) rfl rfl rfl (Nat.le_of_ble_eq_true rfl) (fun r9 W9 hp9 hl9 => ?_)
  obtain ⟨rfl, rfl⟩ := hp9
  refine XG.br eX8_start_5 (P := ¬ (if 0 ≤ (nI x) ∧ (nI x) < tv 3 then 1 else 0) = 0) (r := []) rfl (tgt := 10) (by decide) (fun h5 => ?_) (fun h5 => ?_)
  · skip
    have q1 : (nI x).toNatClampNeg = x := nI_clamp (by omega)
    refine XG.blk tX8_start_ok 6 6 (pc' := 21) (pl' := [some (.ref 0), some (.int (nI x))]) (st' := [(.int (-2)), (.int ((na 7) (nI x).toNatClampNeg))]) (W1 := (sW bv tv ta tb uv ua ub rv ra rb rt se pv pa gv ga ov oa qv qa hv ha nv na yv ya cf cs)) (bs := [px_vb (nI x) 5]) rfl rfl (by (try simp only [q1]); exact (px_all (px_vbN (by omega) (by decide)) rfl)) ?_
    simp only [q1]
    refine XG.br eX8_start_21 (P := ¬ ((na 7) x) = (-2)) (r := []) rfl (tgt := 39) (by decide) (fun h21 => ?_) (fun h21 => ?_)
    · skip
      refine XG.blk tX8_start_ok 20 1 (pc' := 41) (pl' := [some (.ref 0), some (.int (nI x))]) (st' := [(.int (-2))]) (W1 := (sW bv tv ta tb uv ua ub rv ra rb rt se pv pa gv ga ov oa qv qa hv ha nv na yv ya cf cs)) (bs := []) rfl rfl rfl ?_
      refine XS.iret eX8_start_41 rfl rfl ?_
      exact ⟨_, _, _, _, _, _, _, _, rfl, chg.rf, by unfold qStart; rw [if_neg (hw ▸ h21)]⟩
    · skip
      have h21 := Decidable.not_not.mp h21
      refine XG.blk tX8_start_ok 13 5 (pc' := 33) (pl' := [some (.ref 0), some (.int (nI x))]) (st' := [(.int (nI x)), (.ref 68), (.ref 39)]) (W1 := (sW bv tv ta tb uv ua ub rv ra rb rt se pv pa gv ga ov oa qv qa hv ha nv na yv ya cf cs)) (bs := []) rfl rfl rfl ?_
      refine XG.callV (ro := [39, 40, 41, 42, 43, 44, 45, 46, 47, 48, 49, 50, 51, 52, 53, 54, 55, 56, 57, 37, 38, 1, 2, 3, 4, 5, 6, 7, 8, 9, 10, 11, 12, 13, 14, 15, 68, 69, 70, 71, 72]) (W1 := (pW pv pa gv ga ov oa se tv ta tb nv na)) eX8_start_33 kl_X8_253 (cc_latestStart (d - 1) pv pa gv ga ov oa se tv ta tb nv na S lv v a hX hN x hx h hh hh2 hGR (by omega)) (px_fitS (by omega)) rfl ⟨rfl, by decide, by decide⟩ rfl rfl (Nat.le_of_ble_eq_true rfl) (fun r9 W9 hp9 hl9 => ?_)
      obtain ⟨pv1, pa1, gv1, ga1, ov1, oa1, se1, sk1, rfl, rfl⟩ := hp9
      rw [pt_sp]
      show XG _ _ _ _ _ _ [(.int (ltN (inT v a lv (S.1 23) (S.1 24) (S.1 31) x) 41))] (sW bv tv (va_up ta 22 sk1) tb uv ua ub rv ra rb rt se1 pv1 pa1 gv1 ga1 ov1 oa1 qv qa hv ha nv na yv ya cf cs)
      refine XG.goto eX8_start_36 (tgt := 41) (by decide) ?_
      refine XS.iret eX8_start_41 rfl rfl ?_
      exact ⟨_, _, _, _, _, _, _, _, rfl, (chg.up (by decide)), by unfold qStart; rw [if_pos (hw ▸ h21), lt_find]⟩
  · exfalso
    have h5 := Decidable.not_not.mp h5
    exact absurd h5 (by rw [if_pos hin]; decide)
set_option maxHeartbeats 1000000 in
theorem cs_startO (d : Nat) (bv : Nat → Int32) (tv : Nat → Int32) (ta : Nat → Nat → Int32) (tb : Nat → Nat → Int64) (uv : Nat → Int32) (ua : Nat → Nat → Int32) (ub : Nat → Nat → Int64) (rv : Nat → Int32) (ra : Nat → Nat → Int32) (rb : Nat → Nat → Int64) (rt : Value) (se : Nat → Int32) (pv : Nat → Int32) (pa : Nat → Nat → Int32) (gv : Nat → Int32) (ga : Nat → Nat → Int32) (ov : Nat → Int32) (oa : Nat → Nat → Int32) (qv : Nat → Int32) (qa : Nat → Nat → Int32) (hv : Nat → Int32) (ha : Nat → Nat → Int32) (nv : Nat → Int32) (na : Nat → Nat → Int32) (yv : Nat → Int32) (ya : Nat → Nat → Int32) (cf : Nat → Int32) (cs : Nat → Int32) (S : SD) (lv : Nat) (v : Nat → Int32) (a : Nat → Nat → Int32) (hX : CX S lv (aQ a) tv ta) (hN : CNt S (a 54) nv na) (p : Int32) (hp : ¬ px_vb p (S.1 31) = true) (hd : 8 ≤ d) : Con mX8_start d [.ref 0, .int p] (sW bv tv ta tb uv ua ub rv ra rb rt se pv pa gv ga ov oa qv qa hv ha nv na yv ya cf cs) (fun r W' => ∃ pv' pa' gv' ga' ov' oa' se' ta', W' = (sW bv tv ta' tb uv ua ub rv ra rb rt se' pv' pa' gv' ga' ov' oa' qv qa hv ha nv na yv ya cf cs) ∧ chg [22] ta ta' ∧ r = some (.int (-1))) := by
  obtain ⟨hsp, hsp1, hsp2⟩ := hX.sp
  obtain ⟨hsl, hsl2⟩ := hX.sl
  obtain ⟨hcr, hcr2⟩ := hX.cr
  have hno : ¬ (0 ≤ p ∧ p < tv 3) := by rw [hcr]; exact fun w => hp (vb_S (by omega) w)
  refine Con.of (by decide) (Nat.le_of_ble_eq_true rfl) ?_
  refine XG.blk tX8_start_ok 0 2 (pc' := 2) (pl' := [some (.ref 0), some (.int p)]) (st' := [(.int p), (.ref 0)]) (W1 := (sW bv tv ta tb uv ua ub rv ra rb rt se pv pa gv ga ov oa qv qa hv ha nv na yv ya cf cs)) (bs := []) rfl rfl rfl ?_
  refine XG.callV0 eX8_start_2 kl_X8_118 (cs_isCrosser (d - 1) bv tv ta tb uv ua ub rv ra rb rt se pv pa gv ga ov oa qv qa hv ha nv na yv ya cf cs p) (px_fitS (by omega)) rfl rfl rfl (Nat.le_of_ble_eq_true rfl) (fun r9 W9 hp9 hl9 => ?_)
  obtain ⟨rfl, rfl⟩ := hp9
  refine XG.br eX8_start_5 (P := ¬ (if 0 ≤ p ∧ p < tv 3 then 1 else 0) = 0) (r := []) rfl (tgt := 10) (by decide) (fun h5 => ?_) (fun h5 => ?_)
  · exfalso
    exact h5 (if_neg hno)
  · skip
    have h5 := Decidable.not_not.mp h5
    refine XG.blk tX8_start_ok 4 1 (pc' := 9) (pl' := [some (.ref 0), some (.int p)]) (st' := [(.int (-1))]) (W1 := (sW bv tv ta tb uv ua ub rv ra rb rt se pv pa gv ga ov oa qv qa hv ha nv na yv ya cf cs)) (bs := []) rfl rfl rfl ?_
    refine XS.iret eX8_start_9 rfl rfl ?_
    exact ⟨_, _, _, _, _, _, _, _, rfl, chg.rf, rfl⟩
theorem cs_start (d : Nat) (bv : Nat → Int32) (tv : Nat → Int32) (ta : Nat → Nat → Int32) (tb : Nat → Nat → Int64) (uv : Nat → Int32) (ua : Nat → Nat → Int32) (ub : Nat → Nat → Int64) (rv : Nat → Int32) (ra : Nat → Nat → Int32) (rb : Nat → Nat → Int64) (rt : Value) (se : Nat → Int32) (pv : Nat → Int32) (pa : Nat → Nat → Int32) (gv : Nat → Int32) (ga : Nat → Nat → Int32) (ov : Nat → Int32) (oa : Nat → Nat → Int32) (qv : Nat → Int32) (qa : Nat → Nat → Int32) (hv : Nat → Int32) (ha : Nat → Nat → Int32) (nv : Nat → Int32) (na : Nat → Nat → Int32) (yv : Nat → Int32) (ya : Nat → Nat → Int32) (cf : Nat → Int32) (cs : Nat → Int32) (S : SD) (lv : Nat) (v : Nat → Int32) (a : Nat → Nat → Int32) (hX : CX S lv (aQ a) tv ta) (hN : CNt S (a 54) nv na) (p : Int32) (h : Nat) (hh : a 54 28 = nI h) (hh2 : h ≤ 50000) (hGR : GR S h (a 54)) (hd : 8 ≤ d) : Con mX8_start d [.ref 0, .int p] (sW bv tv ta tb uv ua ub rv ra rb rt se pv pa gv ga ov oa qv qa hv ha nv na yv ya cf cs) (fun r W' => ∃ pv' pa' gv' ga' ov' oa' se' ta', W' = (sW bv tv ta' tb uv ua ub rv ra rb rt se' pv' pa' gv' ga' ov' oa' qv qa hv ha nv na yv ya cf cs) ∧ chg [22] ta ta' ∧ r = some (.int (ansB p (S.1 31) (fun x => qStart v a lv (S.1 23) (S.1 24) (S.1 31) x) (-1)))) := by
  obtain ⟨hsp, hsp1, hsp2⟩ := hX.sp
  obtain ⟨hsl, hsl2⟩ := hX.sl
  obtain ⟨hcr, hcr2⟩ := hX.cr
  by_cases hp : px_vb p (S.1 31) = true
  · obtain ⟨x, hx, rfl⟩ := px_vb_ex hp (by omega)
    have eA : ansB (nI x) (S.1 31) (fun x => qStart v a lv (S.1 23) (S.1 24) (S.1 31) x) (-1) = qStart v a lv (S.1 23) (S.1 24) (S.1 31) x := by unfold ansB; rw [if_pos hp, nI_clamp (by omega)]
    rw [eA]
    exact cs_startI d bv tv ta tb uv ua ub rv ra rb rt se pv pa gv ga ov oa qv qa hv ha nv na yv ya cf cs S lv v a hX hN x hx h hh hh2 hGR hd
  · have eA : (ansB p (S.1 31) (fun x => qStart v a lv (S.1 23) (S.1 24) (S.1 31) x) (-1)) = (-1) := by unfold ansB; rw [if_neg hp]
    rw [eA]
    exact cs_startO d bv tv ta tb uv ua ub rv ra rb rt se pv pa gv ga ov oa qv qa hv ha nv na yv ya cf cs S lv v a hX hN p hp hd
