/-! THE CLASS ITSELF: what only looks -/
theorem aQ_up (a : Nat → Nat → Int32) : va_up (aQ a) 55 (a 54) = aQ a := by
  unfold aQ
  funext k; unfold va_up
  by_cases h : k = 55 <;> simp [h]
theorem in_S {x n : Nat} (h : x < n) (hn : n ≤ 6) : 0 ≤ nI x ∧ nI x < nI n := ⟨(nI_leI (a := 0) (by omega) (by omega)).mpr (Nat.zero_le _), (nI_ltI (by omega) (by omega)).mpr h⟩
theorem vb_S {p : Int32} {n : Nat} (hn : n < 2 ^ 31) (h : 0 ≤ p ∧ p < nI n) : px_vb p n = true := by
  refine px_vb_iff.mpr ⟨?_, ?_⟩
  · exact Int32.le_iff_toInt_le.mp h.1
  · have := Int32.lt_iff_toInt_lt.mp h.2
    rw [nI_toInt hn] at this
    exact this
set_option maxHeartbeats 1000000 in
theorem cs_spanI (d : Nat) (bv : Nat → Int32) (tv : Nat → Int32) (ta : Nat → Nat → Int32) (tb : Nat → Nat → Int64) (uv : Nat → Int32) (ua : Nat → Nat → Int32) (ub : Nat → Nat → Int64) (rv : Nat → Int32) (ra : Nat → Nat → Int32) (rb : Nat → Nat → Int64) (rt : Value) (se : Nat → Int32) (pv : Nat → Int32) (pa : Nat → Nat → Int32) (gv : Nat → Int32) (ga : Nat → Nat → Int32) (ov : Nat → Int32) (oa : Nat → Nat → Int32) (qv : Nat → Int32) (qa : Nat → Nat → Int32) (hv : Nat → Int32) (ha : Nat → Nat → Int32) (nv : Nat → Int32) (na : Nat → Nat → Int32) (yv : Nat → Int32) (ya : Nat → Nat → Int32) (cf : Nat → Int32) (cs : Nat → Int32) (S : SD) (lv : Nat) (a : Nat → Nat → Int32) (hX : CX S lv (aQ a) tv ta) (hN : CNt S (a 54) nv na) (x : Nat) (hx : x < S.1 23) (what : Int32) (hd : 4 ≤ d) : Con mX8_span d [.ref 0, .int (nI x), .int what] (sW bv tv ta tb uv ua ub rv ra rb rt se pv pa gv ga ov oa qv qa hv ha nv na yv ya cf cs) (fun r W' => ∃ se' ta', W' = (sW bv tv ta' tb uv ua ub rv ra rb rt se' pv pa gv ga ov oa qv qa hv ha nv na yv ya cf cs) ∧ chg [22] ta ta' ∧ r = some (.int (qSpan a lv (S.1 24) (S.1 31) x what))) := by
  obtain ⟨hsp, hsp1, hsp2⟩ := hX.sp
  obtain ⟨hsl, hsl2⟩ := hX.sl
  obtain ⟨hcr, hcr2⟩ := hX.cr
  have hin : 0 ≤ nI x ∧ nI x < tv 0 := by rw [hsp]; exact in_S hx (by omega)
  refine Con.of (by decide) (Nat.le_of_ble_eq_true rfl) ?_
  refine XG.blk tX8_span_ok 0 2 (pc' := 2) (pl' := [some (.ref 0), some (.int (nI x)), some (.int what)]) (st' := [(.int (nI x)), (.ref 0)]) (W1 := (sW bv tv ta tb uv ua ub rv ra rb rt se pv pa gv ga ov oa qv qa hv ha nv na yv ya cf cs)) (bs := []) rfl rfl rfl ?_
  refine XG.callV0 eX8_span_2 kl_X8_136 (cs_isSpan (d - 1) bv tv ta tb uv ua ub rv ra rb rt se pv pa gv ga ov oa qv qa hv ha nv na yv ya cf cs (nI x)) (px_fitS (by omega)) rfl rfl rfl (Nat.le_of_ble_eq_true rfl) (fun r9 W9 hp9 hl9 => ?_)
  obtain ⟨rfl, rfl⟩ := hp9
  refine XG.br eX8_span_5 (P := ¬ (if 0 ≤ (nI x) ∧ (nI x) < tv 0 then 1 else 0) = 0) (r := []) rfl (tgt := 10) (by decide) (fun h5 => ?_) (fun h5 => ?_)
  · skip
    refine XG.blk tX8_span_ok 6 1 (pc' := 11) (pl' := [some (.ref 0), some (.int (nI x)), some (.int what)]) (st' := [(.int what)]) (W1 := (sW bv tv ta tb uv ua ub rv ra rb rt se pv pa gv ga ov oa qv qa hv ha nv na yv ya cf cs)) (bs := []) rfl rfl rfl ?_
    refine XG.tsw eX8_span_11 (td := 92) (by decide) (tg := [40, 53, 66, 79]) (by decide) (by decide) (fun h11 => ?_) (fun j11 t11 hj11 h11 => ?_)
    · skip
      refine XG.blk tX8_span_ok 36 1 (pc' := 93) (pl' := [some (.ref 0), some (.int (nI x)), some (.int what)]) (st' := [(.int (-1))]) (W1 := (sW bv tv ta tb uv ua ub rv ra rb rt se pv pa gv ga ov oa qv qa hv ha nv na yv ya cf cs)) (bs := []) rfl rfl rfl ?_
      refine XS.iret eX8_span_93 rfl rfl ?_
      exact ⟨_, _, rfl, chg.rf, by unfold qSpan; rw [swF_out h11 rfl]⟩
    · have hl11 : j11 < 4 := (List.getElem?_eq_some_iff.mp hj11).1
      rcases (show j11 = 0 ∨ j11 = 1 ∨ j11 = 2 ∨ j11 = 3 by omega) with rfl | rfl | rfl | rfl
      · cases hj11
        refine XG.blk tX8_span_ok 8 5 (pc' := 49) (pl' := [some (.ref 0), some (.int (nI x)), some (.int what)]) (st' := [(.int (nI x)), (.ref 68), (.ref 37)]) (W1 := (sW bv tv ta tb uv ua ub rv ra rb rt se pv pa gv ga ov oa qv qa hv ha nv na yv ya cf cs)) (bs := []) rfl rfl rfl ?_
        refine XG.callV (ro := [37, 38, 1, 2, 3, 4, 5, 6, 7, 8, 9, 10, 11, 12, 13, 14, 15, 68, 69, 70, 71, 72]) (W1 := (rW se tv ta tb nv na)) eX8_span_49 kl_X8_139 (cc_borne (d - 1) se tv ta tb nv na S lv (aQ a) hX (a 54) hN (nI x) (by omega)) (px_fitS (by omega)) rfl ⟨rfl, by decide, by decide⟩ rfl rfl (Nat.le_of_ble_eq_true rfl) (fun r9 W9 hp9 hl9 => ?_)
        obtain ⟨se1, sk1, rfl, rfl⟩ := hp9
        rw [pt_srn]
        show XG _ _ _ _ _ _ [(.int (bR (aQ a) lv (S.1 24) (S.1 31) (a 54) (nI x)))] (sW bv tv (va_up ta 22 sk1) tb uv ua ub rv ra rb rt se1 pv pa gv ga ov oa qv qa hv ha nv na yv ya cf cs)
        refine XS.iret eX8_span_52 rfl rfl ?_
        exact ⟨_, _, rfl, (chg.up (by decide)), by unfold qSpan; rw [swF_in 0 h11 rfl (Nat.le_of_ble_eq_true rfl)]; unfold bR; rw [aQ_up]⟩
      · cases hj11
        refine XG.blk tX8_span_ok 15 5 (pc' := 62) (pl' := [some (.ref 0), some (.int (nI x)), some (.int what)]) (st' := [(.int (nI x)), (.ref 68), (.ref 37)]) (W1 := (sW bv tv ta tb uv ua ub rv ra rb rt se pv pa gv ga ov oa qv qa hv ha nv na yv ya cf cs)) (bs := []) rfl rfl rfl ?_
        refine XG.callV (ro := [37, 38, 1, 2, 3, 4, 5, 6, 7, 8, 9, 10, 11, 12, 13, 14, 15, 68, 69, 70, 71, 72]) (W1 := (rW se tv ta tb nv na)) eX8_span_62 kl_X8_142 (cc_loadOn (d - 1) se tv ta tb nv na S lv (aQ a) hX (a 54) hN (nI x)) (px_fitS (by omega)) rfl ⟨rfl, by decide, by decide⟩ rfl rfl (Nat.le_of_ble_eq_true rfl) (fun r9 W9 hp9 hl9 => ?_)
        obtain ⟨rfl, rfl⟩ := hp9
        rw [pt_srn]
        show XG _ _ _ _ _ _ [(.int (itN (loadF (a 54) (aQ a 32) lv (nI x)) 0 (S.1 31)))] (sW bv tv ta tb uv ua ub rv ra rb rt se pv pa gv ga ov oa qv qa hv ha nv na yv ya cf cs)
        refine XS.iret eX8_span_65 rfl rfl ?_
        exact ⟨_, _, rfl, chg.rf, by unfold qSpan; rw [swF_in 1 h11 rfl (Nat.le_of_ble_eq_true rfl)]; try rfl⟩
      · cases hj11
        refine XG.blk tX8_span_ok 22 5 (pc' := 75) (pl' := [some (.ref 0), some (.int (nI x)), some (.int what)]) (st' := [(.int (nI x)), (.ref 68), (.ref 37)]) (W1 := (sW bv tv ta tb uv ua ub rv ra rb rt se pv pa gv ga ov oa qv qa hv ha nv na yv ya cf cs)) (bs := []) rfl rfl rfl ?_
        refine XG.callV (ro := [37, 38, 1, 2, 3, 4, 5, 6, 7, 8, 9, 10, 11, 12, 13, 14, 15, 68, 69, 70, 71, 72]) (W1 := (rW se tv ta tb nv na)) eX8_span_75 kl_X8_145 (cc_lyingOn (d - 1) se tv ta tb nv na S lv (aQ a) hX (a 54) hN (nI x)) (px_fitS (by omega)) rfl ⟨rfl, by decide, by decide⟩ rfl rfl (Nat.le_of_ble_eq_true rfl) (fun r9 W9 hp9 hl9 => ?_)
        obtain ⟨rfl, rfl⟩ := hp9
        rw [pt_srn]
        show XG _ _ _ _ _ _ [(.int (itN (bitsF (a 54) 12 (nI x)) 0 (S.1 24)))] (sW bv tv ta tb uv ua ub rv ra rb rt se pv pa gv ga ov oa qv qa hv ha nv na yv ya cf cs)
        refine XS.iret eX8_span_78 rfl rfl ?_
        exact ⟨_, _, rfl, chg.rf, by unfold qSpan; rw [swF_in 2 h11 rfl (Nat.le_of_ble_eq_true rfl)]; try rfl⟩
      · cases hj11
        refine XG.blk tX8_span_ok 29 5 (pc' := 88) (pl' := [some (.ref 0), some (.int (nI x)), some (.int what)]) (st' := [(.int (nI x)), (.ref 68), (.ref 37)]) (W1 := (sW bv tv ta tb uv ua ub rv ra rb rt se pv pa gv ga ov oa qv qa hv ha nv na yv ya cf cs)) (bs := []) rfl rfl rfl ?_
        refine XG.callV (ro := [37, 38, 1, 2, 3, 4, 5, 6, 7, 8, 9, 10, 11, 12, 13, 14, 15, 68, 69, 70, 71, 72]) (W1 := (rW se tv ta tb nv na)) eX8_span_88 kl_X8_148 (cc_crossersAt (d - 1) se tv ta tb nv na S lv (aQ a) hX (a 54) hN (nI x)) (px_fitS (by omega)) rfl ⟨rfl, by decide, by decide⟩ rfl rfl (Nat.le_of_ble_eq_true rfl) (fun r9 W9 hp9 hl9 => ?_)
        obtain ⟨rfl, rfl⟩ := hp9
        rw [pt_srn]
        show XG _ _ _ _ _ _ [(.int (itN (bitsF (a 54) 18 (nI x)) 0 (S.1 31)))] (sW bv tv ta tb uv ua ub rv ra rb rt se pv pa gv ga ov oa qv qa hv ha nv na yv ya cf cs)
        refine XS.iret eX8_span_91 rfl rfl ?_
        exact ⟨_, _, rfl, chg.rf, by unfold qSpan; rw [swF_in 3 h11 rfl (Nat.le_of_ble_eq_true rfl)]; try rfl⟩
  · exfalso
    have h5 := Decidable.not_not.mp h5
    exact absurd h5 (by rw [if_pos hin]; decide)
set_option maxHeartbeats 1000000 in
theorem cs_spanO (d : Nat) (bv : Nat → Int32) (tv : Nat → Int32) (ta : Nat → Nat → Int32) (tb : Nat → Nat → Int64) (uv : Nat → Int32) (ua : Nat → Nat → Int32) (ub : Nat → Nat → Int64) (rv : Nat → Int32) (ra : Nat → Nat → Int32) (rb : Nat → Nat → Int64) (rt : Value) (se : Nat → Int32) (pv : Nat → Int32) (pa : Nat → Nat → Int32) (gv : Nat → Int32) (ga : Nat → Nat → Int32) (ov : Nat → Int32) (oa : Nat → Nat → Int32) (qv : Nat → Int32) (qa : Nat → Nat → Int32) (hv : Nat → Int32) (ha : Nat → Nat → Int32) (nv : Nat → Int32) (na : Nat → Nat → Int32) (yv : Nat → Int32) (ya : Nat → Nat → Int32) (cf : Nat → Int32) (cs : Nat → Int32) (S : SD) (lv : Nat) (a : Nat → Nat → Int32) (hX : CX S lv (aQ a) tv ta) (hN : CNt S (a 54) nv na) (p : Int32) (hp : ¬ px_vb p (S.1 23) = true) (what : Int32) (hd : 4 ≤ d) : Con mX8_span d [.ref 0, .int p, .int what] (sW bv tv ta tb uv ua ub rv ra rb rt se pv pa gv ga ov oa qv qa hv ha nv na yv ya cf cs) (fun r W' => ∃ se' ta', W' = (sW bv tv ta' tb uv ua ub rv ra rb rt se' pv pa gv ga ov oa qv qa hv ha nv na yv ya cf cs) ∧ chg [22] ta ta' ∧ r = some (.int (-1))) := by
  obtain ⟨hsp, hsp1, hsp2⟩ := hX.sp
  obtain ⟨hsl, hsl2⟩ := hX.sl
  obtain ⟨hcr, hcr2⟩ := hX.cr
  have hno : ¬ (0 ≤ p ∧ p < tv 0) := by rw [hsp]; exact fun w => hp (vb_S (by omega) w)
  refine Con.of (by decide) (Nat.le_of_ble_eq_true rfl) ?_
  refine XG.blk tX8_span_ok 0 2 (pc' := 2) (pl' := [some (.ref 0), some (.int p), some (.int what)]) (st' := [(.int p), (.ref 0)]) (W1 := (sW bv tv ta tb uv ua ub rv ra rb rt se pv pa gv ga ov oa qv qa hv ha nv na yv ya cf cs)) (bs := []) rfl rfl rfl ?_
  refine XG.callV0 eX8_span_2 kl_X8_136 (cs_isSpan (d - 1) bv tv ta tb uv ua ub rv ra rb rt se pv pa gv ga ov oa qv qa hv ha nv na yv ya cf cs p) (px_fitS (by omega)) rfl rfl rfl (Nat.le_of_ble_eq_true rfl) (fun r9 W9 hp9 hl9 => ?_)
  obtain ⟨rfl, rfl⟩ := hp9
  refine XG.br eX8_span_5 (P := ¬ (if 0 ≤ p ∧ p < tv 0 then 1 else 0) = 0) (r := []) rfl (tgt := 10) (by decide) (fun h5 => ?_) (fun h5 => ?_)
  · exfalso
    exact h5 (if_neg hno)
  · skip
    have h5 := Decidable.not_not.mp h5
    refine XG.blk tX8_span_ok 4 1 (pc' := 9) (pl' := [some (.ref 0), some (.int p), some (.int what)]) (st' := [(.int (-1))]) (W1 := (sW bv tv ta tb uv ua ub rv ra rb rt se pv pa gv ga ov oa qv qa hv ha nv na yv ya cf cs)) (bs := []) rfl rfl rfl ?_
    refine XS.iret eX8_span_9 rfl rfl ?_
    exact ⟨_, _, rfl, chg.rf, rfl⟩
theorem cs_span (d : Nat) (bv : Nat → Int32) (tv : Nat → Int32) (ta : Nat → Nat → Int32) (tb : Nat → Nat → Int64) (uv : Nat → Int32) (ua : Nat → Nat → Int32) (ub : Nat → Nat → Int64) (rv : Nat → Int32) (ra : Nat → Nat → Int32) (rb : Nat → Nat → Int64) (rt : Value) (se : Nat → Int32) (pv : Nat → Int32) (pa : Nat → Nat → Int32) (gv : Nat → Int32) (ga : Nat → Nat → Int32) (ov : Nat → Int32) (oa : Nat → Nat → Int32) (qv : Nat → Int32) (qa : Nat → Nat → Int32) (hv : Nat → Int32) (ha : Nat → Nat → Int32) (nv : Nat → Int32) (na : Nat → Nat → Int32) (yv : Nat → Int32) (ya : Nat → Nat → Int32) (cf : Nat → Int32) (cs : Nat → Int32) (S : SD) (lv : Nat) (a : Nat → Nat → Int32) (hX : CX S lv (aQ a) tv ta) (hN : CNt S (a 54) nv na) (p what : Int32) (hd : 4 ≤ d) : Con mX8_span d [.ref 0, .int p, .int what] (sW bv tv ta tb uv ua ub rv ra rb rt se pv pa gv ga ov oa qv qa hv ha nv na yv ya cf cs) (fun r W' => ∃ se' ta', W' = (sW bv tv ta' tb uv ua ub rv ra rb rt se' pv pa gv ga ov oa qv qa hv ha nv na yv ya cf cs) ∧ chg [22] ta ta' ∧ r = some (.int (ansB p (S.1 23) (fun x => qSpan a lv (S.1 24) (S.1 31) x what) (-1)))) := by
  obtain ⟨hsp, hsp1, hsp2⟩ := hX.sp
  obtain ⟨hsl, hsl2⟩ := hX.sl
  obtain ⟨hcr, hcr2⟩ := hX.cr
  by_cases hp : px_vb p (S.1 23) = true
  · obtain ⟨x, hx, rfl⟩ := px_vb_ex hp (by omega)
    have eA : ansB (nI x) (S.1 23) (fun x => qSpan a lv (S.1 24) (S.1 31) x what) (-1) = qSpan a lv (S.1 24) (S.1 31) x what := by unfold ansB; rw [if_pos hp, nI_clamp (by omega)]
    rw [eA]
    exact cs_spanI d bv tv ta tb uv ua ub rv ra rb rt se pv pa gv ga ov oa qv qa hv ha nv na yv ya cf cs S lv a hX hN x hx what hd
  · have eA : (ansB p (S.1 23) (fun x => qSpan a lv (S.1 24) (S.1 31) x what) (-1)) = (-1) := by unfold ansB; rw [if_neg hp]
    rw [eA]
    exact cs_spanO d bv tv ta tb uv ua ub rv ra rb rt se pv pa gv ga ov oa qv qa hv ha nv na yv ya cf cs S lv a hX hN p hp what hd
set_option maxHeartbeats 1000000 in
theorem cs_crosserI (d : Nat) (bv : Nat → Int32) (tv : Nat → Int32) (ta : Nat → Nat → Int32) (tb : Nat → Nat → Int64) (uv : Nat → Int32) (ua : Nat → Nat → Int32) (ub : Nat → Nat → Int64) (rv : Nat → Int32) (ra : Nat → Nat → Int32) (rb : Nat → Nat → Int64) (rt : Value) (se : Nat → Int32) (pv : Nat → Int32) (pa : Nat → Nat → Int32) (gv : Nat → Int32) (ga : Nat → Nat → Int32) (ov : Nat → Int32) (oa : Nat → Nat → Int32) (qv : Nat → Int32) (qa : Nat → Nat → Int32) (hv : Nat → Int32) (ha : Nat → Nat → Int32) (nv : Nat → Int32) (na : Nat → Nat → Int32) (yv : Nat → Int32) (ya : Nat → Nat → Int32) (cf : Nat → Int32) (cs : Nat → Int32) (S : SD) (lv : Nat) (a : Nat → Nat → Int32) (hX : CX S lv (aQ a) tv ta) (hN : CNt S (a 54) nv na) (x : Nat) (hx : x < S.1 31) (what : Int32) (hd : 2 ≤ d) : Con mX8_crosser d [.ref 0, .int (nI x), .int what] (sW bv tv ta tb uv ua ub rv ra rb rt se pv pa gv ga ov oa qv qa hv ha nv na yv ya cf cs) (fun r W' => ∃ se' ta', W' = (sW bv tv ta' tb uv ua ub rv ra rb rt se' pv pa gv ga ov oa qv qa hv ha nv na yv ya cf cs) ∧ chg [22] ta ta' ∧ r = some (.int (qCrosser a lv x what))) := by
  obtain ⟨hsp, hsp1, hsp2⟩ := hX.sp
  obtain ⟨hsl, hsl2⟩ := hX.sl
  obtain ⟨hcr, hcr2⟩ := hX.cr
  have hin : 0 ≤ nI x ∧ nI x < tv 3 := by rw [hcr]; exact in_S hx (by omega)
  refine Con.of (by decide) (Nat.le_of_ble_eq_true rfl) ?_
  refine XG.blk tX8_crosser_ok 0 2 (pc' := 2) (pl' := [some (.ref 0), some (.int (nI x)), some (.int what)]) (st' := [(.int (nI x)), (.ref 0)]) (W1 := (sW bv tv ta tb uv ua ub rv ra rb rt se pv pa gv ga ov oa qv qa hv ha nv na yv ya cf cs)) (bs := []) rfl rfl rfl ?_
  refine XG.callV0 eX8_crosser_2 kl_X8_118 (cs_isCrosser (d - 1) bv tv ta tb uv ua ub rv ra rb rt se pv pa gv ga ov oa qv qa hv ha nv na yv ya cf cs (nI x)) (px_fitS (by omega)) rfl rfl rfl (Nat.le_of_ble_eq_true rfl) (fun r9 W9 hp9 hl9 => ?_)
  obtain ⟨rfl, rfl⟩ := hp9
  refine XG.br eX8_crosser_5 (P := ¬ (if 0 ≤ (nI x) ∧ (nI x) < tv 3 then 1 else 0) = 0) (r := []) rfl (tgt := 10) (by decide) (fun h5 => ?_) (fun h5 => ?_)
  · skip
    refine XG.blk tX8_crosser_ok 6 1 (pc' := 11) (pl' := [some (.ref 0), some (.int (nI x)), some (.int what)]) (st' := [(.int what)]) (W1 := (sW bv tv ta tb uv ua ub rv ra rb rt se pv pa gv ga ov oa qv qa hv ha nv na yv ya cf cs)) (bs := []) rfl rfl rfl ?_
    refine XG.tsw eX8_crosser_11 (td := 94) (by decide) (tg := [44, 54, 64, 74, 84]) (by decide) (by decide) (fun h11 => ?_) (fun j11 t11 hj11 h11 => ?_)
    · skip
      refine XG.blk tX8_crosser_ok 38 1 (pc' := 95) (pl' := [some (.ref 0), some (.int (nI x)), some (.int what)]) (st' := [(.int (-1))]) (W1 := (sW bv tv ta tb uv ua ub rv ra rb rt se pv pa gv ga ov oa qv qa hv ha nv na yv ya cf cs)) (bs := []) rfl rfl rfl ?_
      refine XS.iret eX8_crosser_95 rfl rfl ?_
      exact ⟨_, _, rfl, chg.rf, by unfold qCrosser; rw [swF_out h11 rfl]⟩
    · have hl11 : j11 < 5 := (List.getElem?_eq_some_iff.mp hj11).1
      rcases (show j11 = 0 ∨ j11 = 1 ∨ j11 = 2 ∨ j11 = 3 ∨ j11 = 4 by omega) with rfl | rfl | rfl | rfl | rfl
      · cases hj11
        have q1 : (nI x).toNatClampNeg = x := nI_clamp (by omega)
        refine XG.blk tX8_crosser_ok 8 5 (pc' := 53) (pl' := [some (.ref 0), some (.int (nI x)), some (.int what)]) (st' := [(.int ((ta 14) (nI x).toNatClampNeg))]) (W1 := (sW bv tv ta tb uv ua ub rv ra rb rt se pv pa gv ga ov oa qv qa hv ha nv na yv ya cf cs)) (bs := [px_vb (nI x) 5]) rfl rfl (by (try simp only [q1]); exact (px_all (px_vbN (by omega) (by decide)) rfl)) ?_
        simp only [q1]
        refine XS.iret eX8_crosser_53 rfl rfl ?_
        exact ⟨_, _, rfl, chg.rf, by unfold qCrosser; rw [swF_in 0 h11 rfl (Nat.le_of_ble_eq_true rfl)]; exact congrArg (fun z => some (Value.int z)) ((hX.cro hx).1)⟩
      · cases hj11
        have q2 : (nI x).toNatClampNeg = x := nI_clamp (by omega)
        refine XG.blk tX8_crosser_ok 14 5 (pc' := 63) (pl' := [some (.ref 0), some (.int (nI x)), some (.int what)]) (st' := [(.int ((ta 15) (nI x).toNatClampNeg))]) (W1 := (sW bv tv ta tb uv ua ub rv ra rb rt se pv pa gv ga ov oa qv qa hv ha nv na yv ya cf cs)) (bs := [px_vb (nI x) 5]) rfl rfl (by (try simp only [q2]); exact (px_all (px_vbN (by omega) (by decide)) rfl)) ?_
        simp only [q2]
        refine XS.iret eX8_crosser_63 rfl rfl ?_
        exact ⟨_, _, rfl, chg.rf, by unfold qCrosser; rw [swF_in 1 h11 rfl (Nat.le_of_ble_eq_true rfl)]; exact congrArg (fun z => some (Value.int z)) ((hX.cro hx).2.1)⟩
      · cases hj11
        have q3 : (nI x).toNatClampNeg = x := nI_clamp (by omega)
        refine XG.blk tX8_crosser_ok 20 5 (pc' := 73) (pl' := [some (.ref 0), some (.int (nI x)), some (.int what)]) (st' := [(.int ((ta 16) (nI x).toNatClampNeg))]) (W1 := (sW bv tv ta tb uv ua ub rv ra rb rt se pv pa gv ga ov oa qv qa hv ha nv na yv ya cf cs)) (bs := [px_vb (nI x) 5]) rfl rfl (by (try simp only [q3]); exact (px_all (px_vbN (by omega) (by decide)) rfl)) ?_
        simp only [q3]
        refine XS.iret eX8_crosser_73 rfl rfl ?_
        exact ⟨_, _, rfl, chg.rf, by unfold qCrosser; rw [swF_in 2 h11 rfl (Nat.le_of_ble_eq_true rfl)]; exact congrArg (fun z => some (Value.int z)) ((hX.cro hx).2.2)⟩
      · cases hj11
        have q4 : (nI x).toNatClampNeg = x := nI_clamp (by omega)
        refine XG.blk tX8_crosser_ok 26 5 (pc' := 83) (pl' := [some (.ref 0), some (.int (nI x)), some (.int what)]) (st' := [(.int ((na 7) (nI x).toNatClampNeg))]) (W1 := (sW bv tv ta tb uv ua ub rv ra rb rt se pv pa gv ga ov oa qv qa hv ha nv na yv ya cf cs)) (bs := [px_vb (nI x) 5]) rfl rfl (by (try simp only [q4]); exact (px_all (px_vbN (by omega) (by decide)) rfl)) ?_
        simp only [q4]
        refine XS.iret eX8_crosser_83 rfl rfl ?_
        exact ⟨_, _, rfl, chg.rf, by unfold qCrosser; rw [swF_in 3 h11 rfl (Nat.le_of_ble_eq_true rfl)]; exact congrArg (fun z => some (Value.int z)) ((hN.2.2.2.2.2.2 x (by omega)).1)⟩
      · cases hj11
        have q5 : (nI x).toNatClampNeg = x := nI_clamp (by omega)
        refine XG.blk tX8_crosser_ok 32 5 (pc' := 93) (pl' := [some (.ref 0), some (.int (nI x)), some (.int what)]) (st' := [(.int ((na 8) (nI x).toNatClampNeg))]) (W1 := (sW bv tv ta tb uv ua ub rv ra rb rt se pv pa gv ga ov oa qv qa hv ha nv na yv ya cf cs)) (bs := [px_vb (nI x) 5]) rfl rfl (by (try simp only [q5]); exact (px_all (px_vbN (by omega) (by decide)) rfl)) ?_
        simp only [q5]
        refine XS.iret eX8_crosser_93 rfl rfl ?_
        exact ⟨_, _, rfl, chg.rf, by unfold qCrosser; rw [swF_in 4 h11 rfl (Nat.le_of_ble_eq_true rfl)]; exact congrArg (fun z => some (Value.int z)) ((hN.2.2.2.2.2.2 x (by omega)).2)⟩
  · exfalso
    have h5 := Decidable.not_not.mp h5
    exact absurd h5 (by rw [if_pos hin]; decide)
set_option maxHeartbeats 1000000 in
theorem cs_crosserO (d : Nat) (bv : Nat → Int32) (tv : Nat → Int32) (ta : Nat → Nat → Int32) (tb : Nat → Nat → Int64) (uv : Nat → Int32) (ua : Nat → Nat → Int32) (ub : Nat → Nat → Int64) (rv : Nat → Int32) (ra : Nat → Nat → Int32) (rb : Nat → Nat → Int64) (rt : Value) (se : Nat → Int32) (pv : Nat → Int32) (pa : Nat → Nat → Int32) (gv : Nat → Int32) (ga : Nat → Nat → Int32) (ov : Nat → Int32) (oa : Nat → Nat → Int32) (qv : Nat → Int32) (qa : Nat → Nat → Int32) (hv : Nat → Int32) (ha : Nat → Nat → Int32) (nv : Nat → Int32) (na : Nat → Nat → Int32) (yv : Nat → Int32) (ya : Nat → Nat → Int32) (cf : Nat → Int32) (cs : Nat → Int32) (S : SD) (lv : Nat) (a : Nat → Nat → Int32) (hX : CX S lv (aQ a) tv ta) (hN : CNt S (a 54) nv na) (p : Int32) (hp : ¬ px_vb p (S.1 31) = true) (what : Int32) (hd : 2 ≤ d) : Con mX8_crosser d [.ref 0, .int p, .int what] (sW bv tv ta tb uv ua ub rv ra rb rt se pv pa gv ga ov oa qv qa hv ha nv na yv ya cf cs) (fun r W' => ∃ se' ta', W' = (sW bv tv ta' tb uv ua ub rv ra rb rt se' pv pa gv ga ov oa qv qa hv ha nv na yv ya cf cs) ∧ chg [22] ta ta' ∧ r = some (.int (-1))) := by
  obtain ⟨hsp, hsp1, hsp2⟩ := hX.sp
  obtain ⟨hsl, hsl2⟩ := hX.sl
  obtain ⟨hcr, hcr2⟩ := hX.cr
  have hno : ¬ (0 ≤ p ∧ p < tv 3) := by rw [hcr]; exact fun w => hp (vb_S (by omega) w)
  refine Con.of (by decide) (Nat.le_of_ble_eq_true rfl) ?_
  refine XG.blk tX8_crosser_ok 0 2 (pc' := 2) (pl' := [some (.ref 0), some (.int p), some (.int what)]) (st' := [(.int p), (.ref 0)]) (W1 := (sW bv tv ta tb uv ua ub rv ra rb rt se pv pa gv ga ov oa qv qa hv ha nv na yv ya cf cs)) (bs := []) rfl rfl rfl ?_
  refine XG.callV0 eX8_crosser_2 kl_X8_118 (cs_isCrosser (d - 1) bv tv ta tb uv ua ub rv ra rb rt se pv pa gv ga ov oa qv qa hv ha nv na yv ya cf cs p) (px_fitS (by omega)) rfl rfl rfl (Nat.le_of_ble_eq_true rfl) (fun r9 W9 hp9 hl9 => ?_)
  obtain ⟨rfl, rfl⟩ := hp9
  refine XG.br eX8_crosser_5 (P := ¬ (if 0 ≤ p ∧ p < tv 3 then 1 else 0) = 0) (r := []) rfl (tgt := 10) (by decide) (fun h5 => ?_) (fun h5 => ?_)
  · exfalso
    exact h5 (if_neg hno)
  · skip
    have h5 := Decidable.not_not.mp h5
    refine XG.blk tX8_crosser_ok 4 1 (pc' := 9) (pl' := [some (.ref 0), some (.int p), some (.int what)]) (st' := [(.int (-1))]) (W1 := (sW bv tv ta tb uv ua ub rv ra rb rt se pv pa gv ga ov oa qv qa hv ha nv na yv ya cf cs)) (bs := []) rfl rfl rfl ?_
    refine XS.iret eX8_crosser_9 rfl rfl ?_
    exact ⟨_, _, rfl, chg.rf, rfl⟩
theorem cs_crosser (d : Nat) (bv : Nat → Int32) (tv : Nat → Int32) (ta : Nat → Nat → Int32) (tb : Nat → Nat → Int64) (uv : Nat → Int32) (ua : Nat → Nat → Int32) (ub : Nat → Nat → Int64) (rv : Nat → Int32) (ra : Nat → Nat → Int32) (rb : Nat → Nat → Int64) (rt : Value) (se : Nat → Int32) (pv : Nat → Int32) (pa : Nat → Nat → Int32) (gv : Nat → Int32) (ga : Nat → Nat → Int32) (ov : Nat → Int32) (oa : Nat → Nat → Int32) (qv : Nat → Int32) (qa : Nat → Nat → Int32) (hv : Nat → Int32) (ha : Nat → Nat → Int32) (nv : Nat → Int32) (na : Nat → Nat → Int32) (yv : Nat → Int32) (ya : Nat → Nat → Int32) (cf : Nat → Int32) (cs : Nat → Int32) (S : SD) (lv : Nat) (a : Nat → Nat → Int32) (hX : CX S lv (aQ a) tv ta) (hN : CNt S (a 54) nv na) (p what : Int32) (hd : 2 ≤ d) : Con mX8_crosser d [.ref 0, .int p, .int what] (sW bv tv ta tb uv ua ub rv ra rb rt se pv pa gv ga ov oa qv qa hv ha nv na yv ya cf cs) (fun r W' => ∃ se' ta', W' = (sW bv tv ta' tb uv ua ub rv ra rb rt se' pv pa gv ga ov oa qv qa hv ha nv na yv ya cf cs) ∧ chg [22] ta ta' ∧ r = some (.int (ansB p (S.1 31) (fun x => qCrosser a lv x what) (-1)))) := by
  obtain ⟨hsp, hsp1, hsp2⟩ := hX.sp
  obtain ⟨hsl, hsl2⟩ := hX.sl
  obtain ⟨hcr, hcr2⟩ := hX.cr
  by_cases hp : px_vb p (S.1 31) = true
  · obtain ⟨x, hx, rfl⟩ := px_vb_ex hp (by omega)
    have eA : ansB (nI x) (S.1 31) (fun x => qCrosser a lv x what) (-1) = qCrosser a lv x what := by unfold ansB; rw [if_pos hp, nI_clamp (by omega)]
    rw [eA]
    exact cs_crosserI d bv tv ta tb uv ua ub rv ra rb rt se pv pa gv ga ov oa qv qa hv ha nv na yv ya cf cs S lv a hX hN x hx what hd
  · have eA : (ansB p (S.1 31) (fun x => qCrosser a lv x what) (-1)) = (-1) := by unfold ansB; rw [if_neg hp]
    rw [eA]
    exact cs_crosserO d bv tv ta tb uv ua ub rv ra rb rt se pv pa gv ga ov oa qv qa hv ha nv na yv ya cf cs S lv a hX hN p hp what hd
