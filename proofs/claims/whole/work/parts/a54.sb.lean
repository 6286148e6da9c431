/-! THE CLASS ITSELF: dreams -/
set_option maxHeartbeats 4000000 in
theorem pt_sn (bv : Nat → Int32) (tv : Nat → Int32) (ta : Nat → Nat → Int32) (tb : Nat → Nat → Int64) (uv : Nat → Int32) (ua : Nat → Nat → Int32) (ub : Nat → Nat → Int64) (rv : Nat → Int32) (ra : Nat → Nat → Int32) (rb : Nat → Nat → Int64) (rt : Value) (se : Nat → Int32) (pv : Nat → Int32) (pa : Nat → Nat → Int32) (gv : Nat → Int32) (ga : Nat → Nat → Int32) (ov : Nat → Int32) (oa : Nat → Nat → Int32) (qv : Nat → Int32) (qa : Nat → Nat → Int32) (hv : Nat → Int32) (ha : Nat → Nat → Int32) (nv : Nat → Int32) (na : Nat → Nat → Int32) (yv : Nat → Int32) (ya : Nat → Nat → Int32) (cf : Nat → Int32) (cs : Nat → Int32) (nv' : Nat → Int32) (na' : Nat → Nat → Int32) : px_pt (px_f [68, 69, 70, 71, 72]) [68, 69, 70, 71, 72] (nW nv' na') (sW bv tv ta tb uv ua ub rv ra rb rt se pv pa gv ga ov oa qv qa hv ha nv na yv ya cf cs) = sW bv tv ta tb uv ua ub rv ra rb rt se pv pa gv ga ov oa qv qa hv ha nv' na' yv ya cf cs := by
  unfold sW nW
  simp only [px_pt, List.set_cons_succ, List.set_cons_zero]
  rfl
set_option maxHeartbeats 1000000 in
theorem cs_dreamsI (d : Nat) (bv : Nat → Int32) (tv : Nat → Int32) (ta : Nat → Nat → Int32) (tb : Nat → Nat → Int64) (uv : Nat → Int32) (ua : Nat → Nat → Int32) (ub : Nat → Nat → Int64) (rv : Nat → Int32) (ra : Nat → Nat → Int32) (rb : Nat → Nat → Int64) (rt : Value) (se : Nat → Int32) (pv : Nat → Int32) (pa : Nat → Nat → Int32) (gv : Nat → Int32) (ga : Nat → Nat → Int32) (ov : Nat → Int32) (oa : Nat → Nat → Int32) (qv : Nat → Int32) (qa : Nat → Nat → Int32) (hv : Nat → Int32) (ha : Nat → Nat → Int32) (nv : Nat → Int32) (na : Nat → Nat → Int32) (yv : Nat → Int32) (ya : Nat → Nat → Int32) (cf : Nat → Int32) (cs : Nat → Int32) (S : SD) (lv : Nat) (a : Nat → Nat → Int32) (hX : CX S lv (aQ a) tv ta) (hN : CNt S (a 54) nv na) (x : Nat) (hx : x < S.1 23) (hm64 : mOn S (a 54) (nI x) < 64) (hd : 2 ≤ d) : Con mX8_dreams d [.ref 0, .int (nI x)] (sW bv tv ta tb uv ua ub rv ra rb rt se pv pa gv ga ov oa qv qa hv ha nv na yv ya cf cs) (fun r W' => ∃ se' ta', W' = (sW bv tv ta' tb uv ua ub rv ra rb rt se' pv pa gv ga ov oa qv qa hv ha nv na yv ya cf cs) ∧ chg [22] ta ta' ∧ r = some (.int (itN (drO (a 54) (a 35 lv) (a 29) lv (nI x)) 0 (S.1 24)))) := by
  obtain ⟨hsp, hsp1, hsp2⟩ := hX.sp
  obtain ⟨hsl, hsl2⟩ := hX.sl
  have hin : 0 ≤ nI x ∧ nI x < tv 0 := by rw [hsp]; exact in_S hx (by omega)
  refine Con.of (by decide) (Nat.le_of_ble_eq_true rfl) ?_
  refine XG.blk tX8_dreams_ok 0 2 (pc' := 2) (pl' := [some (.ref 0), some (.int (nI x))]) (st' := [(.int (nI x)), (.ref 0)]) (W1 := (sW bv tv ta tb uv ua ub rv ra rb rt se pv pa gv ga ov oa qv qa hv ha nv na yv ya cf cs)) (bs := []) rfl rfl rfl ?_
  refine XG.callV0 eX8_dreams_2 kl_X8_136 (cs_isSpan (d - 1) bv tv ta tb uv ua ub rv ra rb rt se pv pa gv ga ov oa qv qa hv ha nv na yv ya cf cs (nI x)) (px_fitS (by omega)) rfl rfl rfl (Nat.le_of_ble_eq_true rfl) (fun r9 W9 hp9 hl9 => ?_)
  obtain ⟨rfl, rfl⟩ := hp9
  refine XG.br eX8_dreams_5 (P := (if 0 ≤ (nI x) ∧ (nI x) < tv 0 then 1 else 0) = 0) (r := []) rfl (tgt := 26) (by decide) (fun h5 => ?_) (fun h5 => ?_)
  · exfalso
    exact absurd h5 (by rw [if_pos hin]; decide)
  · skip
    refine XG.blk tX8_dreams_ok 4 5 (pc' := 17) (pl' := [some (.ref 0), some (.int (nI x))]) (st' := [(.int (nI x)), (.ref 68), (.ref 37)]) (W1 := (sW bv tv ta tb uv ua ub rv ra rb rt se pv pa gv ga ov oa qv qa hv ha nv na yv ya cf cs)) (bs := []) rfl rfl rfl ?_
    refine XG.callV (ro := [68, 69, 70, 71, 72]) (W1 := (nW nv na)) eX8_dreams_17 kl_X8_157 (cc_asleepOn (d - 1) nv na S hsl2 (a 54) hN (nI x)) (px_fitS (by omega)) rfl ⟨rfl, by decide, by decide⟩ rfl rfl (Nat.le_of_ble_eq_true rfl) (fun r9 W9 hp9 hl9 => ?_)
    obtain ⟨rfl, rfl⟩ := hp9
    rw [pt_sn]
    show XG _ _ _ _ _ _ [(.int (nI (mOn S (a 54) (nI x)))), (.ref 37)] (sW bv tv ta tb uv ua ub rv ra rb rt se pv pa gv ga ov oa qv qa hv ha nv na yv ya cf cs)
    refine XG.callV (ro := [37, 38, 1, 2, 3, 4, 5, 6, 7, 8, 9, 10, 11, 12, 13, 14, 15, 68, 69, 70, 71, 72]) (W1 := (rW se tv ta tb nv na)) eX8_dreams_20 kl_X8_161 (cc_pairsIn (d - 1) se tv ta tb nv na S lv (aQ a) hX (mOn S (a 54) (nI x)) hm64) (px_fitS (by omega)) rfl ⟨rfl, by decide, by decide⟩ rfl rfl (Nat.le_of_ble_eq_true rfl) (fun r9 W9 hp9 hl9 => ?_)
    obtain ⟨rfl, rfl⟩ := hp9
    rw [pt_srn]
    show XG _ _ _ _ _ _ [(.int (nI (prC S.2.2.2.1 (mOn S (a 54) (nI x)) (S.1 30))))] (sW bv tv ta tb uv ua ub rv ra rb rt se pv pa gv ga ov oa qv qa hv ha nv na yv ya cf cs)
    refine XG.goto eX8_dreams_23 (tgt := 27) (by decide) ?_
    refine XS.iret eX8_dreams_27 rfl rfl ?_
    refine ⟨_, _, rfl, chg.rf, ?_⟩
    rw [show a 35 lv = nI (S.1 35) from hX.dw.2.2]
    exact congrArg (fun z => some (Value.int z)) (dr_prC hX.1 hX.2.1 hX.2.2.1 (a 54) (nI x)).symm
set_option maxHeartbeats 1000000 in
theorem cs_dreamsO (d : Nat) (bv : Nat → Int32) (tv : Nat → Int32) (ta : Nat → Nat → Int32) (tb : Nat → Nat → Int64) (uv : Nat → Int32) (ua : Nat → Nat → Int32) (ub : Nat → Nat → Int64) (rv : Nat → Int32) (ra : Nat → Nat → Int32) (rb : Nat → Nat → Int64) (rt : Value) (se : Nat → Int32) (pv : Nat → Int32) (pa : Nat → Nat → Int32) (gv : Nat → Int32) (ga : Nat → Nat → Int32) (ov : Nat → Int32) (oa : Nat → Nat → Int32) (qv : Nat → Int32) (qa : Nat → Nat → Int32) (hv : Nat → Int32) (ha : Nat → Nat → Int32) (nv : Nat → Int32) (na : Nat → Nat → Int32) (yv : Nat → Int32) (ya : Nat → Nat → Int32) (cf : Nat → Int32) (cs : Nat → Int32) (S : SD) (lv : Nat) (a : Nat → Nat → Int32) (hX : CX S lv (aQ a) tv ta) (hN : CNt S (a 54) nv na) (p : Int32) (hp : ¬ px_vb p (S.1 23) = true) (hd : 2 ≤ d) : Con mX8_dreams d [.ref 0, .int p] (sW bv tv ta tb uv ua ub rv ra rb rt se pv pa gv ga ov oa qv qa hv ha nv na yv ya cf cs) (fun r W' => ∃ se' ta', W' = (sW bv tv ta' tb uv ua ub rv ra rb rt se' pv pa gv ga ov oa qv qa hv ha nv na yv ya cf cs) ∧ chg [22] ta ta' ∧ r = some (.int (-1))) := by
  obtain ⟨hsp, hsp1, hsp2⟩ := hX.sp
  obtain ⟨hsl, hsl2⟩ := hX.sl
  have hno : ¬ (0 ≤ p ∧ p < tv 0) := by rw [hsp]; exact fun w => hp (vb_S (by omega) w)
  refine Con.of (by decide) (Nat.le_of_ble_eq_true rfl) ?_
  refine XG.blk tX8_dreams_ok 0 2 (pc' := 2) (pl' := [some (.ref 0), some (.int p)]) (st' := [(.int p), (.ref 0)]) (W1 := (sW bv tv ta tb uv ua ub rv ra rb rt se pv pa gv ga ov oa qv qa hv ha nv na yv ya cf cs)) (bs := []) rfl rfl rfl ?_
  refine XG.callV0 eX8_dreams_2 kl_X8_136 (cs_isSpan (d - 1) bv tv ta tb uv ua ub rv ra rb rt se pv pa gv ga ov oa qv qa hv ha nv na yv ya cf cs p) (px_fitS (by omega)) rfl rfl rfl (Nat.le_of_ble_eq_true rfl) (fun r9 W9 hp9 hl9 => ?_)
  obtain ⟨rfl, rfl⟩ := hp9
  refine XG.br eX8_dreams_5 (P := (if 0 ≤ p ∧ p < tv 0 then 1 else 0) = 0) (r := []) rfl (tgt := 26) (by decide) (fun h5 => ?_) (fun h5 => ?_)
  · skip
    refine XG.blk tX8_dreams_ok 12 1 (pc' := 27) (pl' := [some (.ref 0), some (.int p)]) (st' := [(.int (-1))]) (W1 := (sW bv tv ta tb uv ua ub rv ra rb rt se pv pa gv ga ov oa qv qa hv ha nv na yv ya cf cs)) (bs := []) rfl rfl rfl ?_
    refine XS.iret eX8_dreams_27 rfl rfl ?_
    exact ⟨_, _, rfl, chg.rf, rfl⟩
  · exfalso
    exact h5 (if_neg hno)
theorem cs_dreams (d : Nat) (bv : Nat → Int32) (tv : Nat → Int32) (ta : Nat → Nat → Int32) (tb : Nat → Nat → Int64) (uv : Nat → Int32) (ua : Nat → Nat → Int32) (ub : Nat → Nat → Int64) (rv : Nat → Int32) (ra : Nat → Nat → Int32) (rb : Nat → Nat → Int64) (rt : Value) (se : Nat → Int32) (pv : Nat → Int32) (pa : Nat → Nat → Int32) (gv : Nat → Int32) (ga : Nat → Nat → Int32) (ov : Nat → Int32) (oa : Nat → Nat → Int32) (qv : Nat → Int32) (qa : Nat → Nat → Int32) (hv : Nat → Int32) (ha : Nat → Nat → Int32) (nv : Nat → Int32) (na : Nat → Nat → Int32) (yv : Nat → Int32) (ya : Nat → Nat → Int32) (cf : Nat → Int32) (cs : Nat → Int32) (S : SD) (lv : Nat) (a : Nat → Nat → Int32) (hX : CX S lv (aQ a) tv ta) (hN : CNt S (a 54) nv na) (p : Int32) (hd : 2 ≤ d) : Con mX8_dreams d [.ref 0, .int p] (sW bv tv ta tb uv ua ub rv ra rb rt se pv pa gv ga ov oa qv qa hv ha nv na yv ya cf cs) (fun r W' => ∃ se' ta', W' = (sW bv tv ta' tb uv ua ub rv ra rb rt se' pv pa gv ga ov oa qv qa hv ha nv na yv ya cf cs) ∧ chg [22] ta ta' ∧ r = some (.int (ansB p (S.1 23) (fun x => itN (drO (a 54) (a 35 lv) (a 29) lv (nI x)) 0 (S.1 24)) (-1)))) := by
  obtain ⟨hsp, hsp1, hsp2⟩ := hX.sp
  obtain ⟨hsl, hsl2⟩ := hX.sl
  by_cases hp : px_vb p (S.1 23) = true
  · obtain ⟨x, hx, rfl⟩ := px_vb_ex hp (by omega)
    have eA : ansB (nI x) (S.1 23) (fun x => itN (drO (a 54) (a 35 lv) (a 29) lv (nI x)) 0 (S.1 24)) (-1) = itN (drO (a 54) (a 35 lv) (a 29) lv (nI x)) 0 (S.1 24) := by unfold ansB; rw [if_pos hp, nI_clamp (by omega)]
    rw [eA]
    exact cs_dreamsI d bv tv ta tb uv ua ub rv ra rb rt se pv pa gv ga ov oa qv qa hv ha nv na yv ya cf cs S lv a hX hN x hx (mOn_64 hsl2) hd
  · have eA : (ansB p (S.1 23) (fun x => itN (drO (a 54) (a 35 lv) (a 29) lv (nI x)) 0 (S.1 24)) (-1)) = (-1) := by unfold ansB; rw [if_neg hp]
    rw [eA]
    exact cs_dreamsO d bv tv ta tb uv ua ub rv ra rb rt se pv pa gv ga ov oa qv qa hv ha nv na yv ya cf cs S lv a hX hN p hp hd
