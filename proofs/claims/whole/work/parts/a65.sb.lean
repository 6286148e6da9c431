/-! THE CLASS ITSELF: remember, send, lay, lull, hours, night -/
set_option maxHeartbeats 1000000 in
theorem cs_remember (d : Nat) (bv : Nat → Int32) (tv : Nat → Int32) (ta : Nat → Nat → Int32) (tb : Nat → Nat → Int64) (uv : Nat → Int32) (ua : Nat → Nat → Int32) (ub : Nat → Nat → Int64) (rv : Nat → Int32) (ra : Nat → Nat → Int32) (rb : Nat → Nat → Int64) (rt : Value) (se : Nat → Int32) (pv : Nat → Int32) (pa : Nat → Nat → Int32) (gv : Nat → Int32) (ga : Nat → Nat → Int32) (ov : Nat → Int32) (oa : Nat → Nat → Int32) (qv : Nat → Int32) (qa : Nat → Nat → Int32) (hv : Nat → Int32) (ha : Nat → Nat → Int32) (nv : Nat → Int32) (na : Nat → Nat → Int32) (yv : Nat → Int32) (ya : Nat → Nat → Int32) (cf : Nat → Int32) (cs : Nat → Int32) (np u : Nat) (hnp : np < 40) (hu2 : u ≤ 40) (e11 : bv 11 = nI np) (e10 : bv 10 = nI u) (hd : 2 ≤ d) : Con mX8_remember d [.ref 0] (sW bv tv ta tb uv ua ub rv ra rb rt se pv pa gv ga ov oa qv qa hv ha nv na yv ya cf cs) (fun r W' => W' = (sW (va_up (va_up bv 11 (nI ((np + 1) % 40))) 10 (nI (min (u + 1) 40))) tv ta tb uv ua ub rv ra rb rt se pv pa gv ga ov oa qv qa hv ha nv na yv ya (stF cf np nv na) cs) ∧ r = none) := by
  refine Con.of (by decide) (Nat.le_of_ble_eq_true rfl) ?_
  have q1 : (bv 11) = (nI np) := e11
  refine XG.blk tX8_remember_ok 0 6 (pc' := 12) (pl' := [some (.ref 0)]) (st' := [(.ref 68), (.int (bv 11)), (.ref 78)]) (W1 := (sW bv tv ta tb uv ua ub rv ra rb rt se pv pa gv ga ov oa qv qa hv ha nv na yv ya cf cs)) (bs := []) rfl rfl rfl ?_
  simp only [q1]
  refine XG.callV (ro := [78, 79, 68, 69, 70, 71, 72]) (W1 := (hW 1080 cf nv na)) eX8_remember_12 kl_X8_279 (cc_store40 (d - 1) cf nv na np hnp (by omega)) (px_fitS (by omega)) rfl ⟨rfl, by decide, by decide⟩ rfl rfl (Nat.le_of_ble_eq_true rfl) (fun r9 W9 hp9 hl9 => ?_)
  obtain ⟨rfl, rfl⟩ := hp9
  rw [pt_shp]
  show XG _ _ _ _ _ _ [] (sW bv tv ta tb uv ua ub rv ra rb rt se pv pa gv ga ov oa qv qa hv ha nv na yv ya (stF cf np nv na) cs)
  have q2 : (bv 11) = (nI np) := e11
  have q3 : ((nI np) + (nI 1)) = (nI (np + 1)) := px_eadd rfl rfl
  have q4 : ((nI (np + 1)) - (nI (np + 1)) / (nI 40) * (nI 40)) = (nI ((np + 1) % 40)) := rem40 ⟨np + 1, by omega⟩
  have q5 : (bv 10) = (nI u) := e10
  have q6 : ((nI u) + (nI 1)) = (nI (u + 1)) := px_eadd rfl rfl
  refine XG.blk tX8_remember_ok 7 14 (pc' := 37) (pl' := [some (.ref 0)]) (st' := [(.int (nI 40)), (.int ((bv 10) + (nI 1))), (.ref 0)]) (W1 := (sW (va_up bv 11 (((bv 11) + (nI 1)) - ((bv 11) + (nI 1)) / (nI 40) * (nI 40))) tv ta tb uv ua ub rv ra rb rt se pv pa gv ga ov oa qv qa hv ha nv na yv ya (stF cf np nv na) cs)) (bs := [!((nI 40) == 0)]) rfl rfl (by (try simp only [q2, q3, q4, q5, q6]); exact (px_all (rfl) rfl)) ?_
  simp only [q2, q3, q4, q5, q6]
  refine XG.callSp (r := some (.int (nI (min (u + 1) 40)))) eX8_remember_37 kl_X8_319 (con_minN (d - 1) (u + 1) 40 (by omega) (by omega)) (px_fitS (by omega)) rfl rfl rfl rfl (Nat.le_of_ble_eq_true rfl) ?_
  refine XG.blk tX8_remember_ok 22 1 (pc' := 43) (pl' := [some (.ref 0)]) (st' := []) (W1 := (sW (va_up (va_up bv 11 (nI ((np + 1) % 40))) 10 (nI (min (u + 1) 40))) tv ta tb uv ua ub rv ra rb rt se pv pa gv ga ov oa qv qa hv ha nv na yv ya (stF cf np nv na) cs)) (bs := []) rfl rfl rfl ?_
  refine XS.vret eX8_remember_43 rfl ?_
  exact ⟨rfl, rfl⟩
set_option maxHeartbeats 1000000 in
theorem cs_sendI (d : Nat) (bv : Nat → Int32) (tv : Nat → Int32) (ta : Nat → Nat → Int32) (tb : Nat → Nat → Int64) (uv : Nat → Int32) (ua : Nat → Nat → Int32) (ub : Nat → Nat → Int64) (rv : Nat → Int32) (ra : Nat → Nat → Int32) (rb : Nat → Nat → Int64) (rt : Value) (se : Nat → Int32) (pv : Nat → Int32) (pa : Nat → Nat → Int32) (gv : Nat → Int32) (ga : Nat → Nat → Int32) (ov : Nat → Int32) (oa : Nat → Nat → Int32) (qv : Nat → Int32) (qa : Nat → Nat → Int32) (hv : Nat → Int32) (ha : Nat → Nat → Int32) (nv : Nat → Int32) (na : Nat → Nat → Int32) (yv : Nat → Int32) (ya : Nat → Nat → Int32) (cf : Nat → Int32) (cs : Nat → Int32) (S : SD) (lv : Nat) (a : Nat → Nat → Int32) (hX : CX S lv (aQ a) tv ta) (hN : CNt S (a 54) nv na) (np u : Nat) (hnp : np < 40) (hu2 : u ≤ 40) (e11 : bv 11 = nI np) (e10 : bv 10 = nI u) (x : Nat) (hx : x < S.1 31) (hd : 3 ≤ d) : Con mX8_send d [.ref 0, .int (nI x)] (sW bv tv ta tb uv ua ub rv ra rb rt se pv pa gv ga ov oa qv qa hv ha nv na yv ya cf cs) (fun r W' => ((px_vb (nI x) (S.1 31) = true ∧ a 54 (18 + (nI x).toNatClampNeg) = -2) ∧ ∃ na', W' = (sW (va_up (va_up bv 11 (nI ((np + 1) % 40))) 10 (nI (min (u + 1) 40))) tv ta tb uv ua ub rv ra rb rt se pv pa gv ga ov oa qv qa hv ha nv na' yv ya (stF cf np nv na) cs) ∧ CNt S (upd (a 54) (18 + (nI x).toNatClampNeg) (-3)) nv na' ∧ r = some (.int 1)) ∨ (¬ (px_vb (nI x) (S.1 31) = true ∧ a 54 (18 + (nI x).toNatClampNeg) = -2) ∧ W' = (sW bv tv ta tb uv ua ub rv ra rb rt se pv pa gv ga ov oa qv qa hv ha nv na yv ya cf cs) ∧ r = some (.int 0))) := by
  obtain ⟨hsp, hsp1, hsp2⟩ := hX.sp
  obtain ⟨hsl, hsl2⟩ := hX.sl
  obtain ⟨hcr, hcr2⟩ := hX.cr
  have hin : 0 ≤ nI x ∧ nI x < tv 3 := by rw [hcr]; exact in_S hx (by omega)
  have hw : na 7 x = a 54 (18 + x) := (hN.2.2.2.2.2.2 x (by omega)).1
  have hcl : (nI x).toNatClampNeg = x := nI_clamp (by omega)
  refine Con.of (by decide) (Nat.le_of_ble_eq_true rfl) ?_
  refine XG.blk tX8_send_ok 0 2 (pc' := 2) (pl' := [some (.ref 0), some (.int (nI x))]) (st' := [(.int (nI x)), (.ref 0)]) (W1 := (sW bv tv ta tb uv ua ub rv ra rb rt se pv pa gv ga ov oa qv qa hv ha nv na yv ya cf cs)) (bs := []) rfl rfl rfl ?_
  refine XG.callV0 eX8_send_2 kl_X8_118 (cs_isCrosser (d - 1) bv tv ta tb uv ua ub rv ra rb rt se pv pa gv ga ov oa qv qa hv ha nv na yv ya cf cs (nI x)) (px_fitS (by omega)) rfl rfl rfl (Nat.le_of_ble_eq_true rfl) (fun r9 W9 hp9 hl9 => ?_)
  obtain ⟨rfl, rfl⟩ := hp9
  refine XG.br eX8_send_5 (P := (if 0 ≤ (nI x) ∧ (nI x) < tv 3 then 1 else 0) = 0) (r := []) rfl (tgt := 22) (by decide) (fun h5 => ?_) (fun h5 => ?_)
  · exfalso
    exact absurd h5 (by rw [if_pos hin]; decide)
  · skip
    have q1 : (nI x).toNatClampNeg = x := nI_clamp (by omega)
    refine XG.blk tX8_send_ok 4 6 (pc' := 19) (pl' := [some (.ref 0), some (.int (nI x))]) (st' := [(.int (-2)), (.int ((na 7) (nI x).toNatClampNeg))]) (W1 := (sW bv tv ta tb uv ua ub rv ra rb rt se pv pa gv ga ov oa qv qa hv ha nv na yv ya cf cs)) (bs := [px_vb (nI x) 5]) rfl rfl (by (try simp only [q1]); exact (px_all (px_vbN (by omega) (by decide)) rfl)) ?_
    simp only [q1]
    refine XG.br eX8_send_19 (P := ((na 7) x) = (-2)) (r := []) rfl (tgt := 24) (by decide) (fun h19 => ?_) (fun h19 => ?_)
    · skip
      refine XG.blk tX8_send_ok 13 1 (pc' := 25) (pl' := [some (.ref 0), some (.int (nI x))]) (st' := [(.ref 0)]) (W1 := (sW bv tv ta tb uv ua ub rv ra rb rt se pv pa gv ga ov oa qv qa hv ha nv na yv ya cf cs)) (bs := []) rfl rfl rfl ?_
      refine XG.callV0 eX8_send_25 kl_X8_164 (cs_remember (d - 1) bv tv ta tb uv ua ub rv ra rb rt se pv pa gv ga ov oa qv qa hv ha nv na yv ya cf cs np u hnp hu2 e11 e10 (by omega)) (px_fitS (by omega)) rfl rfl rfl (Nat.le_of_ble_eq_true rfl) (fun r9 W9 hp9 hl9 => ?_)
      obtain ⟨rfl, rfl⟩ := hp9
      show XG _ _ _ _ _ _ [] (sW (va_up (va_up bv 11 (nI ((np + 1) % 40))) 10 (nI (min (u + 1) 40))) tv ta tb uv ua ub rv ra rb rt se pv pa gv ga ov oa qv qa hv ha nv na yv ya (stF cf np nv na) cs)
      have q2 : (nI x).toNatClampNeg = x := nI_clamp (by omega)
      refine XG.blk tX8_send_ok 15 7 (pc' := 40) (pl' := [some (.ref 0), some (.int (nI x))]) (st' := [(.int (nI 1))]) (W1 := (sW (va_up (va_up bv 11 (nI ((np + 1) % 40))) 10 (nI (min (u + 1) 40))) tv ta tb uv ua ub rv ra rb rt se pv pa gv ga ov oa qv qa hv ha nv (va_up na 7 (upd (na 7) (nI x).toNatClampNeg (-3))) yv ya (stF cf np nv na) cs)) (bs := [px_vb (nI x) 5]) rfl rfl (by (try simp only [q2]); exact (px_all (px_vbN (by omega) (by decide)) rfl)) ?_
      simp only [q2]
      refine XS.iret eX8_send_40 rfl (by decide) ?_
      refine Or.inl ⟨⟨px_vbN hx (by omega), by (try rw [hcl]); rw [← hw]; exact h19⟩, _, rfl, ?_, rfl⟩
      try rw [hcl]
      exact hN.wh (by omega) (-3) hsl2
    · skip
      refine XG.blk tX8_send_ok 11 1 (pc' := 23) (pl' := [some (.ref 0), some (.int (nI x))]) (st' := [(.int (nI 0))]) (W1 := (sW bv tv ta tb uv ua ub rv ra rb rt se pv pa gv ga ov oa qv qa hv ha nv na yv ya cf cs)) (bs := []) rfl rfl rfl ?_
      refine XS.iret eX8_send_23 rfl (by decide) ?_
      refine Or.inr ⟨fun w => h19 ?_, rfl, rfl⟩
      try rw [hcl] at w
      rw [hw]; exact w.2
set_option maxHeartbeats 1000000 in
theorem cs_sendO (d : Nat) (bv : Nat → Int32) (tv : Nat → Int32) (ta : Nat → Nat → Int32) (tb : Nat → Nat → Int64) (uv : Nat → Int32) (ua : Nat → Nat → Int32) (ub : Nat → Nat → Int64) (rv : Nat → Int32) (ra : Nat → Nat → Int32) (rb : Nat → Nat → Int64) (rt : Value) (se : Nat → Int32) (pv : Nat → Int32) (pa : Nat → Nat → Int32) (gv : Nat → Int32) (ga : Nat → Nat → Int32) (ov : Nat → Int32) (oa : Nat → Nat → Int32) (qv : Nat → Int32) (qa : Nat → Nat → Int32) (hv : Nat → Int32) (ha : Nat → Nat → Int32) (nv : Nat → Int32) (na : Nat → Nat → Int32) (yv : Nat → Int32) (ya : Nat → Nat → Int32) (cf : Nat → Int32) (cs : Nat → Int32) (S : SD) (lv : Nat) (a : Nat → Nat → Int32) (hX : CX S lv (aQ a) tv ta) (hN : CNt S (a 54) nv na) (np u : Nat) (hnp : np < 40) (hu2 : u ≤ 40) (e11 : bv 11 = nI np) (e10 : bv 10 = nI u) (p : Int32) (hp : ¬ px_vb p (S.1 31) = true) (hd : 3 ≤ d) : Con mX8_send d [.ref 0, .int p] (sW bv tv ta tb uv ua ub rv ra rb rt se pv pa gv ga ov oa qv qa hv ha nv na yv ya cf cs) (fun r W' => ((px_vb p (S.1 31) = true ∧ a 54 (18 + p.toNatClampNeg) = -2) ∧ ∃ na', W' = (sW (va_up (va_up bv 11 (nI ((np + 1) % 40))) 10 (nI (min (u + 1) 40))) tv ta tb uv ua ub rv ra rb rt se pv pa gv ga ov oa qv qa hv ha nv na' yv ya (stF cf np nv na) cs) ∧ CNt S (upd (a 54) (18 + p.toNatClampNeg) (-3)) nv na' ∧ r = some (.int 1)) ∨ (¬ (px_vb p (S.1 31) = true ∧ a 54 (18 + p.toNatClampNeg) = -2) ∧ W' = (sW bv tv ta tb uv ua ub rv ra rb rt se pv pa gv ga ov oa qv qa hv ha nv na yv ya cf cs) ∧ r = some (.int 0))) := by
  have hno : ¬ (0 ≤ p ∧ p < tv 3) := fun w => hp ((hX.isC p).mp w)
  refine Con.of (by decide) (Nat.le_of_ble_eq_true rfl) ?_
  refine XG.blk tX8_send_ok 0 2 (pc' := 2) (pl' := [some (.ref 0), some (.int p)]) (st' := [(.int p), (.ref 0)]) (W1 := (sW bv tv ta tb uv ua ub rv ra rb rt se pv pa gv ga ov oa qv qa hv ha nv na yv ya cf cs)) (bs := []) rfl rfl rfl ?_
  refine XG.callV0 eX8_send_2 kl_X8_118 (cs_isCrosser (d - 1) bv tv ta tb uv ua ub rv ra rb rt se pv pa gv ga ov oa qv qa hv ha nv na yv ya cf cs p) (px_fitS (by omega)) rfl rfl rfl (Nat.le_of_ble_eq_true rfl) (fun r9 W9 hp9 hl9 => ?_)
  obtain ⟨rfl, rfl⟩ := hp9
  refine XG.br eX8_send_5 (P := (if 0 ≤ p ∧ p < tv 3 then 1 else 0) = 0) (r := []) rfl (tgt := 22) (by decide) (fun h5 => ?_) (fun h5 => ?_)
  · skip
    refine XG.blk tX8_send_ok 11 1 (pc' := 23) (pl' := [some (.ref 0), some (.int p)]) (st' := [(.int (nI 0))]) (W1 := (sW bv tv ta tb uv ua ub rv ra rb rt se pv pa gv ga ov oa qv qa hv ha nv na yv ya cf cs)) (bs := []) rfl rfl rfl ?_
    refine XS.iret eX8_send_23 rfl (by decide) ?_
    exact Or.inr ⟨fun w => hp w.1, rfl, rfl⟩
  · exfalso
    exact h5 (if_neg hno)
theorem cs_send (d : Nat) (bv : Nat → Int32) (tv : Nat → Int32) (ta : Nat → Nat → Int32) (tb : Nat → Nat → Int64) (uv : Nat → Int32) (ua : Nat → Nat → Int32) (ub : Nat → Nat → Int64) (rv : Nat → Int32) (ra : Nat → Nat → Int32) (rb : Nat → Nat → Int64) (rt : Value) (se : Nat → Int32) (pv : Nat → Int32) (pa : Nat → Nat → Int32) (gv : Nat → Int32) (ga : Nat → Nat → Int32) (ov : Nat → Int32) (oa : Nat → Nat → Int32) (qv : Nat → Int32) (qa : Nat → Nat → Int32) (hv : Nat → Int32) (ha : Nat → Nat → Int32) (nv : Nat → Int32) (na : Nat → Nat → Int32) (yv : Nat → Int32) (ya : Nat → Nat → Int32) (cf : Nat → Int32) (cs : Nat → Int32) (S : SD) (lv : Nat) (a : Nat → Nat → Int32) (hX : CX S lv (aQ a) tv ta) (hN : CNt S (a 54) nv na) (np u : Nat) (hnp : np < 40) (hu2 : u ≤ 40) (e11 : bv 11 = nI np) (e10 : bv 10 = nI u) (p : Int32) (hd : 3 ≤ d) : Con mX8_send d [.ref 0, .int p] (sW bv tv ta tb uv ua ub rv ra rb rt se pv pa gv ga ov oa qv qa hv ha nv na yv ya cf cs) (fun r W' => ((px_vb p (S.1 31) = true ∧ a 54 (18 + p.toNatClampNeg) = -2) ∧ ∃ na', W' = (sW (va_up (va_up bv 11 (nI ((np + 1) % 40))) 10 (nI (min (u + 1) 40))) tv ta tb uv ua ub rv ra rb rt se pv pa gv ga ov oa qv qa hv ha nv na' yv ya (stF cf np nv na) cs) ∧ CNt S (upd (a 54) (18 + p.toNatClampNeg) (-3)) nv na' ∧ r = some (.int 1)) ∨ (¬ (px_vb p (S.1 31) = true ∧ a 54 (18 + p.toNatClampNeg) = -2) ∧ W' = (sW bv tv ta tb uv ua ub rv ra rb rt se pv pa gv ga ov oa qv qa hv ha nv na yv ya cf cs) ∧ r = some (.int 0))) := by
  obtain ⟨hsp, hsp1, hsp2⟩ := hX.sp
  obtain ⟨hsl, hsl2⟩ := hX.sl
  obtain ⟨hcr, hcr2⟩ := hX.cr
  by_cases hp : px_vb p (S.1 31) = true
  · obtain ⟨x, hx, rfl⟩ := px_vb_ex hp (by omega)
    exact cs_sendI d bv tv ta tb uv ua ub rv ra rb rt se pv pa gv ga ov oa qv qa hv ha nv na yv ya cf cs S lv a hX hN np u hnp hu2 e11 e10 x hx hd
  · exact cs_sendO d bv tv ta tb uv ua ub rv ra rb rt se pv pa gv ga ov oa qv qa hv ha nv na yv ya cf cs S lv a hX hN np u hnp hu2 e11 e10 p hp hd
set_option maxHeartbeats 1000000 in
theorem cs_layI (d : Nat) (bv : Nat → Int32) (tv : Nat → Int32) (ta : Nat → Nat → Int32) (tb : Nat → Nat → Int64) (uv : Nat → Int32) (ua : Nat → Nat → Int32) (ub : Nat → Nat → Int64) (rv : Nat → Int32) (ra : Nat → Nat → Int32) (rb : Nat → Nat → Int64) (rt : Value) (se : Nat → Int32) (pv : Nat → Int32) (pa : Nat → Nat → Int32) (gv : Nat → Int32) (ga : Nat → Nat → Int32) (ov : Nat → Int32) (oa : Nat → Nat → Int32) (qv : Nat → Int32) (qa : Nat → Nat → Int32) (hv : Nat → Int32) (ha : Nat → Nat → Int32) (nv : Nat → Int32) (na : Nat → Nat → Int32) (yv : Nat → Int32) (ya : Nat → Nat → Int32) (cf : Nat → Int32) (cs : Nat → Int32) (S : SD) (lv : Nat) (a : Nat → Nat → Int32) (hX : CX S lv (aQ a) tv ta) (hN : CNt S (a 54) nv na) (np u : Nat) (hnp : np < 40) (hu2 : u ≤ 40) (e11 : bv 11 = nI np) (e10 : bv 10 = nI u) (x : Nat) (hx : x < S.1 24) (y : Int32) (hd : 3 ≤ d) : Con mX8_lay d [.ref 0, .int (nI x), .int y] (sW bv tv ta tb uv ua ub rv ra rb rt se pv pa gv ga ov oa qv qa hv ha nv na yv ya cf cs) (fun r W' => (((px_vb (nI x) (S.1 24) = true ∧ px_vb y (S.1 23) = true) ∧ ¬ a 54 (12 + (nI x).toNatClampNeg) = y) ∧ ∃ na', W' = (sW (va_up (va_up bv 11 (nI ((np + 1) % 40))) 10 (nI (min (u + 1) 40))) tv ta tb uv ua ub rv ra rb rt se pv pa gv ga ov oa qv qa hv ha nv na' yv ya (stF cf np nv na) cs) ∧ CNt S (upd (a 54) (12 + (nI x).toNatClampNeg) y) nv na' ∧ r = some (.int 1)) ∨ (¬ ((px_vb (nI x) (S.1 24) = true ∧ px_vb y (S.1 23) = true) ∧ ¬ a 54 (12 + (nI x).toNatClampNeg) = y) ∧ W' = (sW bv tv ta tb uv ua ub rv ra rb rt se pv pa gv ga ov oa qv qa hv ha nv na yv ya cf cs) ∧ r = some (.int 0))) := by
  obtain ⟨hsp, hsp1, hsp2⟩ := hX.sp
  obtain ⟨hsl, hsl2⟩ := hX.sl
  obtain ⟨hcr, hcr2⟩ := hX.cr
  have hin : 0 ≤ nI x ∧ nI x < tv 1 := by rw [hsl]; exact in_S hx (by omega)
  have hw : na 6 x = a 54 (12 + x) := (hN.2.2.2.2.2.1 x hx).2
  have hcl : (nI x).toNatClampNeg = x := nI_clamp (by omega)
  refine Con.of (by decide) (Nat.le_of_ble_eq_true rfl) ?_
  refine XG.blk tX8_lay_ok 0 2 (pc' := 2) (pl' := [some (.ref 0), some (.int (nI x)), some (.int y)]) (st' := [(.int (nI x)), (.ref 0)]) (W1 := (sW bv tv ta tb uv ua ub rv ra rb rt se pv pa gv ga ov oa qv qa hv ha nv na yv ya cf cs)) (bs := []) rfl rfl rfl ?_
  refine XG.callV0 eX8_lay_2 kl_X8_94 (cs_isSleeper (d - 1) bv tv ta tb uv ua ub rv ra rb rt se pv pa gv ga ov oa qv qa hv ha nv na yv ya cf cs (nI x)) (px_fitS (by omega)) rfl rfl rfl (Nat.le_of_ble_eq_true rfl) (fun r9 W9 hp9 hl9 => ?_)
  obtain ⟨rfl, rfl⟩ := hp9
  refine XG.br eX8_lay_5 (P := (if 0 ≤ (nI x) ∧ (nI x) < tv 1 then 1 else 0) = 0) (r := []) rfl (tgt := 29) (by decide) (fun h5 => ?_) (fun h5 => ?_)
  · exfalso
    exact absurd h5 (by rw [if_pos hin]; decide)
  · skip
    refine XG.blk tX8_lay_ok 4 2 (pc' := 10) (pl' := [some (.ref 0), some (.int (nI x)), some (.int y)]) (st' := [(.int y), (.ref 0)]) (W1 := (sW bv tv ta tb uv ua ub rv ra rb rt se pv pa gv ga ov oa qv qa hv ha nv na yv ya cf cs)) (bs := []) rfl rfl rfl ?_
    refine XG.callV0 eX8_lay_10 kl_X8_136 (cs_isSpan (d - 1) bv tv ta tb uv ua ub rv ra rb rt se pv pa gv ga ov oa qv qa hv ha nv na yv ya cf cs y) (px_fitS (by omega)) rfl rfl rfl (Nat.le_of_ble_eq_true rfl) (fun r9 W9 hp9 hl9 => ?_)
    obtain ⟨rfl, rfl⟩ := hp9
    refine XG.br eX8_lay_13 (P := (if 0 ≤ y ∧ y < tv 0 then 1 else 0) = 0) (r := []) rfl (tgt := 29) (by decide) (fun h13 => ?_) (fun h13 => ?_)
    · skip
      refine XG.blk tX8_lay_ok 15 1 (pc' := 30) (pl' := [some (.ref 0), some (.int (nI x)), some (.int y)]) (st' := [(.int (nI 0))]) (W1 := (sW bv tv ta tb uv ua ub rv ra rb rt se pv pa gv ga ov oa qv qa hv ha nv na yv ya cf cs)) (bs := []) rfl rfl rfl ?_
      refine XS.iret eX8_lay_30 rfl (by decide) ?_
      refine Or.inr ⟨fun w => ?_, rfl, rfl⟩
      try rw [hcl] at w
      first | exact one_ne.mp h13 ((hX.isP y).mpr w.1.2) | exact w.2 (hw ▸ h26)
    · skip
      have q1 : (nI x).toNatClampNeg = x := nI_clamp (by omega)
      refine XG.blk tX8_lay_ok 8 6 (pc' := 26) (pl' := [some (.ref 0), some (.int (nI x)), some (.int y)]) (st' := [(.int y), (.int ((na 6) (nI x).toNatClampNeg))]) (W1 := (sW bv tv ta tb uv ua ub rv ra rb rt se pv pa gv ga ov oa qv qa hv ha nv na yv ya cf cs)) (bs := [px_vb (nI x) 6]) rfl rfl (by (try simp only [q1]); exact (px_all (px_vbN (by omega) (by decide)) rfl)) ?_
      simp only [q1]
      refine XG.br eX8_lay_26 (P := ¬ ((na 6) x) = y) (r := []) rfl (tgt := 31) (by decide) (fun h26 => ?_) (fun h26 => ?_)
      · skip
        refine XG.blk tX8_lay_ok 17 1 (pc' := 32) (pl' := [some (.ref 0), some (.int (nI x)), some (.int y)]) (st' := [(.ref 0)]) (W1 := (sW bv tv ta tb uv ua ub rv ra rb rt se pv pa gv ga ov oa qv qa hv ha nv na yv ya cf cs)) (bs := []) rfl rfl rfl ?_
        refine XG.callV0 eX8_lay_32 kl_X8_164 (cs_remember (d - 1) bv tv ta tb uv ua ub rv ra rb rt se pv pa gv ga ov oa qv qa hv ha nv na yv ya cf cs np u hnp hu2 e11 e10 (by omega)) (px_fitS (by omega)) rfl rfl rfl (Nat.le_of_ble_eq_true rfl) (fun r9 W9 hp9 hl9 => ?_)
        obtain ⟨rfl, rfl⟩ := hp9
        show XG _ _ _ _ _ _ [] (sW (va_up (va_up bv 11 (nI ((np + 1) % 40))) 10 (nI (min (u + 1) 40))) tv ta tb uv ua ub rv ra rb rt se pv pa gv ga ov oa qv qa hv ha nv na yv ya (stF cf np nv na) cs)
        have q2 : (nI x).toNatClampNeg = x := nI_clamp (by omega)
        refine XG.blk tX8_lay_ok 19 7 (pc' := 46) (pl' := [some (.ref 0), some (.int (nI x)), some (.int y)]) (st' := [(.int (nI 1))]) (W1 := (sW (va_up (va_up bv 11 (nI ((np + 1) % 40))) 10 (nI (min (u + 1) 40))) tv ta tb uv ua ub rv ra rb rt se pv pa gv ga ov oa qv qa hv ha nv (va_up na 6 (upd (na 6) (nI x).toNatClampNeg y)) yv ya (stF cf np nv na) cs)) (bs := [px_vb (nI x) 6]) rfl rfl (by (try simp only [q2]); exact (px_all (px_vbN (by omega) (by decide)) rfl)) ?_
        simp only [q2]
        refine XS.iret eX8_lay_46 rfl (by decide) ?_
        refine Or.inl ⟨⟨⟨px_vbN hx (by omega), (hX.isP y).mp (is_ne h13)⟩, by (try rw [hcl]); rw [← hw]; exact h26⟩, _, rfl, ?_, rfl⟩
        try rw [hcl]
        exact hN.li hx y hsl2
      · skip
        have h26 := Decidable.not_not.mp h26
        refine XG.blk tX8_lay_ok 15 1 (pc' := 30) (pl' := [some (.ref 0), some (.int (nI x)), some (.int y)]) (st' := [(.int (nI 0))]) (W1 := (sW bv tv ta tb uv ua ub rv ra rb rt se pv pa gv ga ov oa qv qa hv ha nv na yv ya cf cs)) (bs := []) rfl rfl rfl ?_
        refine XS.iret eX8_lay_30 rfl (by decide) ?_
        refine Or.inr ⟨fun w => ?_, rfl, rfl⟩
        try rw [hcl] at w
        first | exact one_ne.mp h13 ((hX.isP y).mpr w.1.2) | exact w.2 (hw ▸ h26)
set_option maxHeartbeats 1000000 in
theorem cs_layO (d : Nat) (bv : Nat → Int32) (tv : Nat → Int32) (ta : Nat → Nat → Int32) (tb : Nat → Nat → Int64) (uv : Nat → Int32) (ua : Nat → Nat → Int32) (ub : Nat → Nat → Int64) (rv : Nat → Int32) (ra : Nat → Nat → Int32) (rb : Nat → Nat → Int64) (rt : Value) (se : Nat → Int32) (pv : Nat → Int32) (pa : Nat → Nat → Int32) (gv : Nat → Int32) (ga : Nat → Nat → Int32) (ov : Nat → Int32) (oa : Nat → Nat → Int32) (qv : Nat → Int32) (qa : Nat → Nat → Int32) (hv : Nat → Int32) (ha : Nat → Nat → Int32) (nv : Nat → Int32) (na : Nat → Nat → Int32) (yv : Nat → Int32) (ya : Nat → Nat → Int32) (cf : Nat → Int32) (cs : Nat → Int32) (S : SD) (lv : Nat) (a : Nat → Nat → Int32) (hX : CX S lv (aQ a) tv ta) (hN : CNt S (a 54) nv na) (np u : Nat) (hnp : np < 40) (hu2 : u ≤ 40) (e11 : bv 11 = nI np) (e10 : bv 10 = nI u) (p y : Int32) (hp : ¬ px_vb p (S.1 24) = true) (hd : 3 ≤ d) : Con mX8_lay d [.ref 0, .int p, .int y] (sW bv tv ta tb uv ua ub rv ra rb rt se pv pa gv ga ov oa qv qa hv ha nv na yv ya cf cs) (fun r W' => (((px_vb p (S.1 24) = true ∧ px_vb y (S.1 23) = true) ∧ ¬ a 54 (12 + p.toNatClampNeg) = y) ∧ ∃ na', W' = (sW (va_up (va_up bv 11 (nI ((np + 1) % 40))) 10 (nI (min (u + 1) 40))) tv ta tb uv ua ub rv ra rb rt se pv pa gv ga ov oa qv qa hv ha nv na' yv ya (stF cf np nv na) cs) ∧ CNt S (upd (a 54) (12 + p.toNatClampNeg) y) nv na' ∧ r = some (.int 1)) ∨ (¬ ((px_vb p (S.1 24) = true ∧ px_vb y (S.1 23) = true) ∧ ¬ a 54 (12 + p.toNatClampNeg) = y) ∧ W' = (sW bv tv ta tb uv ua ub rv ra rb rt se pv pa gv ga ov oa qv qa hv ha nv na yv ya cf cs) ∧ r = some (.int 0))) := by
  have hno : ¬ (0 ≤ p ∧ p < tv 1) := fun w => hp ((hX.isL p).mp w)
  refine Con.of (by decide) (Nat.le_of_ble_eq_true rfl) ?_
  refine XG.blk tX8_lay_ok 0 2 (pc' := 2) (pl' := [some (.ref 0), some (.int p), some (.int y)]) (st' := [(.int p), (.ref 0)]) (W1 := (sW bv tv ta tb uv ua ub rv ra rb rt se pv pa gv ga ov oa qv qa hv ha nv na yv ya cf cs)) (bs := []) rfl rfl rfl ?_
  refine XG.callV0 eX8_lay_2 kl_X8_94 (cs_isSleeper (d - 1) bv tv ta tb uv ua ub rv ra rb rt se pv pa gv ga ov oa qv qa hv ha nv na yv ya cf cs p) (px_fitS (by omega)) rfl rfl rfl (Nat.le_of_ble_eq_true rfl) (fun r9 W9 hp9 hl9 => ?_)
  obtain ⟨rfl, rfl⟩ := hp9
  refine XG.br eX8_lay_5 (P := (if 0 ≤ p ∧ p < tv 1 then 1 else 0) = 0) (r := []) rfl (tgt := 29) (by decide) (fun h5 => ?_) (fun h5 => ?_)
  · skip
    refine XG.blk tX8_lay_ok 15 1 (pc' := 30) (pl' := [some (.ref 0), some (.int p), some (.int y)]) (st' := [(.int (nI 0))]) (W1 := (sW bv tv ta tb uv ua ub rv ra rb rt se pv pa gv ga ov oa qv qa hv ha nv na yv ya cf cs)) (bs := []) rfl rfl rfl ?_
    refine XS.iret eX8_lay_30 rfl (by decide) ?_
    exact Or.inr ⟨fun w => hp w.1.1, rfl, rfl⟩
  · exfalso
    exact h5 (if_neg hno)
theorem cs_lay (d : Nat) (bv : Nat → Int32) (tv : Nat → Int32) (ta : Nat → Nat → Int32) (tb : Nat → Nat → Int64) (uv : Nat → Int32) (ua : Nat → Nat → Int32) (ub : Nat → Nat → Int64) (rv : Nat → Int32) (ra : Nat → Nat → Int32) (rb : Nat → Nat → Int64) (rt : Value) (se : Nat → Int32) (pv : Nat → Int32) (pa : Nat → Nat → Int32) (gv : Nat → Int32) (ga : Nat → Nat → Int32) (ov : Nat → Int32) (oa : Nat → Nat → Int32) (qv : Nat → Int32) (qa : Nat → Nat → Int32) (hv : Nat → Int32) (ha : Nat → Nat → Int32) (nv : Nat → Int32) (na : Nat → Nat → Int32) (yv : Nat → Int32) (ya : Nat → Nat → Int32) (cf : Nat → Int32) (cs : Nat → Int32) (S : SD) (lv : Nat) (a : Nat → Nat → Int32) (hX : CX S lv (aQ a) tv ta) (hN : CNt S (a 54) nv na) (np u : Nat) (hnp : np < 40) (hu2 : u ≤ 40) (e11 : bv 11 = nI np) (e10 : bv 10 = nI u) (p y : Int32) (hd : 3 ≤ d) : Con mX8_lay d [.ref 0, .int p, .int y] (sW bv tv ta tb uv ua ub rv ra rb rt se pv pa gv ga ov oa qv qa hv ha nv na yv ya cf cs) (fun r W' => (((px_vb p (S.1 24) = true ∧ px_vb y (S.1 23) = true) ∧ ¬ a 54 (12 + p.toNatClampNeg) = y) ∧ ∃ na', W' = (sW (va_up (va_up bv 11 (nI ((np + 1) % 40))) 10 (nI (min (u + 1) 40))) tv ta tb uv ua ub rv ra rb rt se pv pa gv ga ov oa qv qa hv ha nv na' yv ya (stF cf np nv na) cs) ∧ CNt S (upd (a 54) (12 + p.toNatClampNeg) y) nv na' ∧ r = some (.int 1)) ∨ (¬ ((px_vb p (S.1 24) = true ∧ px_vb y (S.1 23) = true) ∧ ¬ a 54 (12 + p.toNatClampNeg) = y) ∧ W' = (sW bv tv ta tb uv ua ub rv ra rb rt se pv pa gv ga ov oa qv qa hv ha nv na yv ya cf cs) ∧ r = some (.int 0))) := by
  obtain ⟨hsp, hsp1, hsp2⟩ := hX.sp
  obtain ⟨hsl, hsl2⟩ := hX.sl
  obtain ⟨hcr, hcr2⟩ := hX.cr
  by_cases hp : px_vb p (S.1 24) = true
  · obtain ⟨x, hx, rfl⟩ := px_vb_ex hp (by omega)
    exact cs_layI d bv tv ta tb uv ua ub rv ra rb rt se pv pa gv ga ov oa qv qa hv ha nv na yv ya cf cs S lv a hX hN np u hnp hu2 e11 e10 x hx y hd
  · exact cs_layO d bv tv ta tb uv ua ub rv ra rb rt se pv pa gv ga ov oa qv qa hv ha nv na yv ya cf cs S lv a hX hN np u hnp hu2 e11 e10 p y hp hd
theorem is_slp {S : SD} {lv : Nat} {a : Nat → Nat → Int32} {tv : Nat → Int32} {ta : Nat → Nat → Int32} {nv : Nat → Int32} {na : Nat → Nat → Int32} (hX : CX S lv (aQ a) tv ta) (hN : CNt S (a 54) nv na) {x : Nat} (hx : x < S.1 24) (h : (nv 4 >>> (nI x &&& 31)) &&& nI 1 = nI 1) : slp (a 54) (a 35 lv) x := by
  rw [asl_v hX hN hx] at h
  by_cases w : slp (a 54) (a 35 lv) x
  · exact w
  · rw [if_neg w] at h; exact absurd h (by decide)
set_option maxHeartbeats 1000000 in
theorem cs_lullI (d : Nat) (bv : Nat → Int32) (tv : Nat → Int32) (ta : Nat → Nat → Int32) (tb : Nat → Nat → Int64) (uv : Nat → Int32) (ua : Nat → Nat → Int32) (ub : Nat → Nat → Int64) (rv : Nat → Int32) (ra : Nat → Nat → Int32) (rb : Nat → Nat → Int64) (rt : Value) (se : Nat → Int32) (pv : Nat → Int32) (pa : Nat → Nat → Int32) (gv : Nat → Int32) (ga : Nat → Nat → Int32) (ov : Nat → Int32) (oa : Nat → Nat → Int32) (qv : Nat → Int32) (qa : Nat → Nat → Int32) (hv : Nat → Int32) (ha : Nat → Nat → Int32) (nv : Nat → Int32) (na : Nat → Nat → Int32) (yv : Nat → Int32) (ya : Nat → Nat → Int32) (cf : Nat → Int32) (cs : Nat → Int32) (S : SD) (lv : Nat) (a : Nat → Nat → Int32) (hX : CX S lv (aQ a) tv ta) (hN : CNt S (a 54) nv na) (np u : Nat) (hnp : np < 40) (hu2 : u ≤ 40) (e11 : bv 11 = nI np) (e10 : bv 10 = nI u) (hD : DR S (a 54)) (x : Nat) (hx : x < S.1 24) (hd : 3 ≤ d) : Con mX8_lull d [.ref 0, .int (nI x)] (sW bv tv ta tb uv ua ub rv ra rb rt se pv pa gv ga ov oa qv qa hv ha nv na yv ya cf cs) (fun r W' => ((px_vb (nI x) (S.1 24) = true ∧ ¬ a 54 (6 + (nI x).toNatClampNeg) = 0 ∧ a 54 28 < a 35 lv) ∧ ∃ nv' na', W' = (sW (va_up (va_up bv 11 (nI ((np + 1) % 40))) 10 (nI (min (u + 1) 40))) tv ta tb uv ua ub rv ra rb rt se pv pa gv ga ov oa qv qa hv ha nv' na' yv ya (stF cf np nv na) cs) ∧ CNt S (lullR a (nI x).toNatClampNeg) nv' na' ∧ r = some (.int (lullR a (nI x).toNatClampNeg (nI x).toNatClampNeg))) ∨ (¬ (px_vb (nI x) (S.1 24) = true ∧ ¬ a 54 (6 + (nI x).toNatClampNeg) = 0 ∧ a 54 28 < a 35 lv) ∧ W' = (sW bv tv ta tb uv ua ub rv ra rb rt se pv pa gv ga ov oa qv qa hv ha nv na yv ya cf cs) ∧ r = some (.int (if px_vb (nI x) (S.1 24) = true then -2 else -1)))) := by
  obtain ⟨hsp, hsp1, hsp2⟩ := hX.sp
  obtain ⟨hsl, hsl2⟩ := hX.sl
  obtain ⟨hcr, hcr2⟩ := hX.cr
  have hin : 0 ≤ nI x ∧ nI x < tv 1 := by rw [hsl]; exact in_S hx (by omega)
  have hcl : (nI x).toNatClampNeg = x := nI_clamp (by omega)
  have hdw : a 35 lv = nI (S.1 35) := hX.dw.2.2
  have htd : tv 4 = a 35 lv := hX.dw.1.trans hdw.symm
  have hvb : px_vb (nI x) (S.1 24) = true := px_vbN hx (by omega)
  refine Con.of (by decide) (Nat.le_of_ble_eq_true rfl) ?_
  refine XG.blk tX8_lull_ok 0 2 (pc' := 2) (pl' := [some (.ref 0), some (.int (nI x))]) (st' := [(.int (nI x)), (.ref 0)]) (W1 := (sW bv tv ta tb uv ua ub rv ra rb rt se pv pa gv ga ov oa qv qa hv ha nv na yv ya cf cs)) (bs := []) rfl rfl rfl ?_
  refine XG.callV0 eX8_lull_2 kl_X8_94 (cs_isSleeper (d - 1) bv tv ta tb uv ua ub rv ra rb rt se pv pa gv ga ov oa qv qa hv ha nv na yv ya cf cs (nI x)) (px_fitS (by omega)) rfl rfl rfl (Nat.le_of_ble_eq_true rfl) (fun r9 W9 hp9 hl9 => ?_)
  obtain ⟨rfl, rfl⟩ := hp9
  refine XG.br eX8_lull_5 (P := ¬ (if 0 ≤ (nI x) ∧ (nI x) < tv 1 then 1 else 0) = 0) (r := []) rfl (tgt := 10) (by decide) (fun h5 => ?_) (fun h5 => ?_)
  · skip
    refine XG.blk tX8_lull_ok 6 8 (pc' := 22) (pl' := [some (.ref 0), some (.int (nI x))]) (st' := [(.int (nI 1)), (.int (((nv 4) >>> ((nI x) &&& 31)) &&& (nI 1)))]) (W1 := (sW bv tv ta tb uv ua ub rv ra rb rt se pv pa gv ga ov oa qv qa hv ha nv na yv ya cf cs)) (bs := []) rfl rfl rfl ?_
    refine XG.br eX8_lull_22 (P := (((nv 4) >>> ((nI x) &&& 31)) &&& (nI 1)) = (nI 1)) (r := []) rfl (tgt := 42) (by decide) (fun h22 => ?_) (fun h22 => ?_)
    · skip
      refine XG.blk tX8_lull_ok 22 1 (pc' := 44) (pl' := [some (.ref 0), some (.int (nI x))]) (st' := [(.int (-2))]) (W1 := (sW bv tv ta tb uv ua ub rv ra rb rt se pv pa gv ga ov oa qv qa hv ha nv na yv ya cf cs)) (bs := []) rfl rfl rfl ?_
      refine XS.iret eX8_lull_44 rfl rfl ?_
      refine Or.inr ⟨fun w => ?_, rfl, by rw [if_pos hvb]⟩
      try rw [hcl] at w
      first | exact w.2.1 (is_slp hX hN hx h22).1 | exact h39 (by rw [htd, hN.1]; exact w.2.2)
    · skip
      refine XG.blk tX8_lull_ok 15 6 (pc' := 39) (pl' := [some (.ref 0), some (.int (nI x))]) (st' := [(.int (tv 4)), (.int (nv 0))]) (W1 := (sW bv tv ta tb uv ua ub rv ra rb rt se pv pa gv ga ov oa qv qa hv ha nv na yv ya cf cs)) (bs := []) rfl rfl rfl ?_
      refine XG.br eX8_lull_39 (P := (nv 0) < (tv 4)) (r := []) rfl (tgt := 45) (by decide) (fun h39 => ?_) (fun h39 => ?_)
      · skip
        refine XG.blk tX8_lull_ok 24 1 (pc' := 46) (pl' := [some (.ref 0), some (.int (nI x))]) (st' := [(.ref 0)]) (W1 := (sW bv tv ta tb uv ua ub rv ra rb rt se pv pa gv ga ov oa qv qa hv ha nv na yv ya cf cs)) (bs := []) rfl rfl rfl ?_
        refine XG.callV0 eX8_lull_46 kl_X8_164 (cs_remember (d - 1) bv tv ta tb uv ua ub rv ra rb rt se pv pa gv ga ov oa qv qa hv ha nv na yv ya cf cs np u hnp hu2 e11 e10 (by omega)) (px_fitS (by omega)) rfl rfl rfl (Nat.le_of_ble_eq_true rfl) (fun r9 W9 hp9 hl9 => ?_)
        obtain ⟨rfl, rfl⟩ := hp9
        show XG _ _ _ _ _ _ [] (sW (va_up (va_up bv 11 (nI ((np + 1) % 40))) 10 (nI (min (u + 1) 40))) tv ta tb uv ua ub rv ra rb rt se pv pa gv ga ov oa qv qa hv ha nv na yv ya (stF cf np nv na) cs)
        have q1 : (nI x).toNatClampNeg = x := nI_clamp (by omega)
        refine XG.blk tX8_lull_ok 26 21 (pc' := 85) (pl' := [some (.ref 0), some (.int (nI x))]) (st' := [(.int (((na 5) (nI x).toNatClampNeg) - (nI 9))), (.int (nI 0)), (.int (nI x)), (.ref 69)]) (W1 := (sW (va_up (va_up bv 11 (nI ((np + 1) % 40))) 10 (nI (min (u + 1) 40))) tv ta tb uv ua ub rv ra rb rt se pv pa gv ga ov oa qv qa hv ha (va_up nv 4 ((nv 4) ||| ((nI 1) <<< ((nI x) &&& 31)))) na yv ya (stF cf np nv na) cs)) (bs := [px_vb (nI x) 6]) rfl rfl (by (try simp only [q1]); exact (px_all (px_vbN (by omega) (by decide)) rfl)) ?_
        simp only [q1]
        refine XG.callSp (r := some (.int (mxF (nI 0) (((na 5) x) - (nI 9))))) eX8_lull_85 kl_X8_173 (con_max (d - 1) (nI 0) (((na 5) x) - (nI 9))) (px_fitS (by omega)) rfl rfl rfl rfl (Nat.le_of_ble_eq_true rfl) ?_
        have q2 : (nI x).toNatClampNeg = x := nI_clamp (by omega)
        have q3 : ((upd (na 5) x (mxF (nI 0) (((na 5) x) - (nI 9)))) x) = (mxF (nI 0) (((na 5) x) - (nI 9))) := pk_us
        refine XG.blk tX8_lull_ok 48 6 (pc' := 98) (pl' := [some (.ref 0), some (.int (nI x))]) (st' := [(.int ((upd (na 5) (nI x).toNatClampNeg (mxF (nI 0) (((na 5) x) - (nI 9)))) (nI x).toNatClampNeg))]) (W1 := (sW (va_up (va_up bv 11 (nI ((np + 1) % 40))) 10 (nI (min (u + 1) 40))) tv ta tb uv ua ub rv ra rb rt se pv pa gv ga ov oa qv qa hv ha (va_up nv 4 ((nv 4) ||| ((nI 1) <<< ((nI x) &&& 31)))) (va_up na 5 (upd (na 5) (nI x).toNatClampNeg (mxF (nI 0) (((na 5) x) - (nI 9))))) yv ya (stF cf np nv na) cs)) (bs := [px_vb (nI x) 6, px_vb (nI x) 6]) rfl rfl (by (try simp only [q2, q3]); exact (px_all (px_vbN (by omega) (by decide)) (px_all (px_vbN (by omega) (by decide)) rfl))) ?_
        simp only [q2, q3]
        refine XS.iret eX8_lull_98 rfl rfl ?_
        have hns : ¬ slp (a 54) (a 35 lv) x := fun w => h22 (by rw [asl_v hX hN hx, if_pos w]; rfl)
        have hlt : a 54 28 < a 35 lv := by rw [← hN.1, ← htd]; exact h39
        have hCN := hN.lull hx hsl2 (by rw [← hdw]; exact hlt) hD
        refine Or.inl ⟨⟨hvb, by (try rw [hcl]); exact fun w => hns ⟨w, hlt⟩, hlt⟩, _, _, rfl, by (try rw [hcl]); exact hCN, ?_⟩
        try rw [hcl]
        exact congrArg (fun z => some (Value.int z)) (upd_eq.symm.trans ((hCN.2.2.2.2.2.1 x hx).1))
      · skip
        refine XG.blk tX8_lull_ok 22 1 (pc' := 44) (pl' := [some (.ref 0), some (.int (nI x))]) (st' := [(.int (-2))]) (W1 := (sW bv tv ta tb uv ua ub rv ra rb rt se pv pa gv ga ov oa qv qa hv ha nv na yv ya cf cs)) (bs := []) rfl rfl rfl ?_
        refine XS.iret eX8_lull_44 rfl rfl ?_
        refine Or.inr ⟨fun w => ?_, rfl, by rw [if_pos hvb]⟩
        try rw [hcl] at w
        first | exact w.2.1 (is_slp hX hN hx h22).1 | exact h39 (by rw [htd, hN.1]; exact w.2.2)
  · exfalso
    have h5 := Decidable.not_not.mp h5
    exact absurd h5 (by rw [if_pos hin]; decide)
set_option maxHeartbeats 1000000 in
theorem cs_lullO (d : Nat) (bv : Nat → Int32) (tv : Nat → Int32) (ta : Nat → Nat → Int32) (tb : Nat → Nat → Int64) (uv : Nat → Int32) (ua : Nat → Nat → Int32) (ub : Nat → Nat → Int64) (rv : Nat → Int32) (ra : Nat → Nat → Int32) (rb : Nat → Nat → Int64) (rt : Value) (se : Nat → Int32) (pv : Nat → Int32) (pa : Nat → Nat → Int32) (gv : Nat → Int32) (ga : Nat → Nat → Int32) (ov : Nat → Int32) (oa : Nat → Nat → Int32) (qv : Nat → Int32) (qa : Nat → Nat → Int32) (hv : Nat → Int32) (ha : Nat → Nat → Int32) (nv : Nat → Int32) (na : Nat → Nat → Int32) (yv : Nat → Int32) (ya : Nat → Nat → Int32) (cf : Nat → Int32) (cs : Nat → Int32) (S : SD) (lv : Nat) (a : Nat → Nat → Int32) (hX : CX S lv (aQ a) tv ta) (hN : CNt S (a 54) nv na) (np u : Nat) (hnp : np < 40) (hu2 : u ≤ 40) (e11 : bv 11 = nI np) (e10 : bv 10 = nI u) (p : Int32) (hp : ¬ px_vb p (S.1 24) = true) (hd : 3 ≤ d) : Con mX8_lull d [.ref 0, .int p] (sW bv tv ta tb uv ua ub rv ra rb rt se pv pa gv ga ov oa qv qa hv ha nv na yv ya cf cs) (fun r W' => ((px_vb p (S.1 24) = true ∧ ¬ a 54 (6 + p.toNatClampNeg) = 0 ∧ a 54 28 < a 35 lv) ∧ ∃ nv' na', W' = (sW (va_up (va_up bv 11 (nI ((np + 1) % 40))) 10 (nI (min (u + 1) 40))) tv ta tb uv ua ub rv ra rb rt se pv pa gv ga ov oa qv qa hv ha nv' na' yv ya (stF cf np nv na) cs) ∧ CNt S (lullR a p.toNatClampNeg) nv' na' ∧ r = some (.int (lullR a p.toNatClampNeg p.toNatClampNeg))) ∨ (¬ (px_vb p (S.1 24) = true ∧ ¬ a 54 (6 + p.toNatClampNeg) = 0 ∧ a 54 28 < a 35 lv) ∧ W' = (sW bv tv ta tb uv ua ub rv ra rb rt se pv pa gv ga ov oa qv qa hv ha nv na yv ya cf cs) ∧ r = some (.int (if px_vb p (S.1 24) = true then -2 else -1)))) := by
  have hno : ¬ (0 ≤ p ∧ p < tv 1) := fun w => hp ((hX.isL p).mp w)
  refine Con.of (by decide) (Nat.le_of_ble_eq_true rfl) ?_
  refine XG.blk tX8_lull_ok 0 2 (pc' := 2) (pl' := [some (.ref 0), some (.int p)]) (st' := [(.int p), (.ref 0)]) (W1 := (sW bv tv ta tb uv ua ub rv ra rb rt se pv pa gv ga ov oa qv qa hv ha nv na yv ya cf cs)) (bs := []) rfl rfl rfl ?_
  refine XG.callV0 eX8_lull_2 kl_X8_94 (cs_isSleeper (d - 1) bv tv ta tb uv ua ub rv ra rb rt se pv pa gv ga ov oa qv qa hv ha nv na yv ya cf cs p) (px_fitS (by omega)) rfl rfl rfl (Nat.le_of_ble_eq_true rfl) (fun r9 W9 hp9 hl9 => ?_)
  obtain ⟨rfl, rfl⟩ := hp9
  refine XG.br eX8_lull_5 (P := ¬ (if 0 ≤ p ∧ p < tv 1 then 1 else 0) = 0) (r := []) rfl (tgt := 10) (by decide) (fun h5 => ?_) (fun h5 => ?_)
  · exfalso
    exact h5 (if_neg hno)
  · skip
    have h5 := Decidable.not_not.mp h5
    refine XG.blk tX8_lull_ok 4 1 (pc' := 9) (pl' := [some (.ref 0), some (.int p)]) (st' := [(.int (-1))]) (W1 := (sW bv tv ta tb uv ua ub rv ra rb rt se pv pa gv ga ov oa qv qa hv ha nv na yv ya cf cs)) (bs := []) rfl rfl rfl ?_
    refine XS.iret eX8_lull_9 rfl rfl ?_
    exact Or.inr ⟨fun w => hp w.1, rfl, by rw [if_neg hp]⟩
theorem cs_lull (d : Nat) (bv : Nat → Int32) (tv : Nat → Int32) (ta : Nat → Nat → Int32) (tb : Nat → Nat → Int64) (uv : Nat → Int32) (ua : Nat → Nat → Int32) (ub : Nat → Nat → Int64) (rv : Nat → Int32) (ra : Nat → Nat → Int32) (rb : Nat → Nat → Int64) (rt : Value) (se : Nat → Int32) (pv : Nat → Int32) (pa : Nat → Nat → Int32) (gv : Nat → Int32) (ga : Nat → Nat → Int32) (ov : Nat → Int32) (oa : Nat → Nat → Int32) (qv : Nat → Int32) (qa : Nat → Nat → Int32) (hv : Nat → Int32) (ha : Nat → Nat → Int32) (nv : Nat → Int32) (na : Nat → Nat → Int32) (yv : Nat → Int32) (ya : Nat → Nat → Int32) (cf : Nat → Int32) (cs : Nat → Int32) (S : SD) (lv : Nat) (a : Nat → Nat → Int32) (hX : CX S lv (aQ a) tv ta) (hN : CNt S (a 54) nv na) (np u : Nat) (hnp : np < 40) (hu2 : u ≤ 40) (e11 : bv 11 = nI np) (e10 : bv 10 = nI u) (hD : DR S (a 54)) (p : Int32) (hd : 3 ≤ d) : Con mX8_lull d [.ref 0, .int p] (sW bv tv ta tb uv ua ub rv ra rb rt se pv pa gv ga ov oa qv qa hv ha nv na yv ya cf cs) (fun r W' => ((px_vb p (S.1 24) = true ∧ ¬ a 54 (6 + p.toNatClampNeg) = 0 ∧ a 54 28 < a 35 lv) ∧ ∃ nv' na', W' = (sW (va_up (va_up bv 11 (nI ((np + 1) % 40))) 10 (nI (min (u + 1) 40))) tv ta tb uv ua ub rv ra rb rt se pv pa gv ga ov oa qv qa hv ha nv' na' yv ya (stF cf np nv na) cs) ∧ CNt S (lullR a p.toNatClampNeg) nv' na' ∧ r = some (.int (lullR a p.toNatClampNeg p.toNatClampNeg))) ∨ (¬ (px_vb p (S.1 24) = true ∧ ¬ a 54 (6 + p.toNatClampNeg) = 0 ∧ a 54 28 < a 35 lv) ∧ W' = (sW bv tv ta tb uv ua ub rv ra rb rt se pv pa gv ga ov oa qv qa hv ha nv na yv ya cf cs) ∧ r = some (.int (if px_vb p (S.1 24) = true then -2 else -1)))) := by
  obtain ⟨hsp, hsp1, hsp2⟩ := hX.sp
  obtain ⟨hsl, hsl2⟩ := hX.sl
  obtain ⟨hcr, hcr2⟩ := hX.cr
  by_cases hp : px_vb p (S.1 24) = true
  · obtain ⟨x, hx, rfl⟩ := px_vb_ex hp (by omega)
    exact cs_lullI d bv tv ta tb uv ua ub rv ra rb rt se pv pa gv ga ov oa qv qa hv ha nv na yv ya cf cs S lv a hX hN np u hnp hu2 e11 e10 hD x hx hd
  · exact cs_lullO d bv tv ta tb uv ua ub rv ra rb rt se pv pa gv ga ov oa qv qa hv ha nv na yv ya cf cs S lv a hX hN np u hnp hu2 e11 e10 p hp hd
