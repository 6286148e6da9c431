/-! THE CLASS ITSELF: hours, night, undo, hold, restore -/
theorem vb_3 {x : Int32} (h1 : ¬ x < 0) (h2 : x < nI 3) : px_vb x 3 = true := by
  have e1 := Int32.le_iff_toInt_le.mp (Int32.not_lt.mp h1)
  have e2 := Int32.lt_iff_toInt_lt.mp h2
  rw [show (nI 3).toInt = 3 from rfl] at e2
  exact px_vb_iff.mpr ⟨e1, e2⟩
set_option maxHeartbeats 1000000 in
theorem cs_hoursI (d : Nat) (bv : Nat → Int32) (tv : Nat → Int32) (ta : Nat → Nat → Int32) (tb : Nat → Nat → Int64) (uv : Nat → Int32) (ua : Nat → Nat → Int32) (ub : Nat → Nat → Int64) (rv : Nat → Int32) (ra : Nat → Nat → Int32) (rb : Nat → Nat → Int64) (rt : Value) (se : Nat → Int32) (pv : Nat → Int32) (pa : Nat → Nat → Int32) (gv : Nat → Int32) (ga : Nat → Nat → Int32) (ov : Nat → Int32) (oa : Nat → Nat → Int32) (qv : Nat → Int32) (qa : Nat → Nat → Int32) (hv : Nat → Int32) (ha : Nat → Nat → Int32) (nv : Nat → Int32) (na : Nat → Nat → Int32) (yv : Nat → Int32) (ya : Nat → Nat → Int32) (cf : Nat → Int32) (cs : Nat → Int32) (S : SD) (lv : Nat) (v : Nat → Int32) (a : Nat → Nat → Int32) (hX : CX S lv (aQ a) tv ta) (hN : CNt S (a 54) nv na) (np u : Nat) (hnp : np < 40) (hu2 : u ≤ 40) (e11 : bv 11 = nI np) (e10 : bv 10 = nI u) (H : Nat) (hGR : GR S H (a 54)) (hH : H ≤ 50000) (n : Nat) (hn1 : 1 ≤ n) (hn : n ≤ 24) (hd : 6 ≤ d) : Con mX8_hours d [.ref 0, .int (nI n)] (sW bv tv ta tb uv ua ub rv ra rb rt se pv pa gv ga ov oa qv qa hv ha nv na yv ya cf cs) (fun r W' => ∃ nv' na' se' ta', W' = (sW (va_up (va_up bv 11 (nI ((np + 1) % 40))) 10 (nI (min (u + 1) 40))) tv ta' tb uv ua ub rv ra rb rt se' pv pa gv ga ov oa qv qa hv ha nv' na' yv ya (stF cf np nv na) cs) ∧ chg [22] ta ta' ∧ CNt S (hoursR v a lv (S.1 23) (S.1 24) (S.1 31) n) nv' na' ∧ r = some (.int ((hoursR v a lv (S.1 23) (S.1 24) (S.1 31) n) 28))) := by
  obtain ⟨hsp, hsp1, hsp2⟩ := hX.sp
  obtain ⟨hsl, hsl2⟩ := hX.sl
  obtain ⟨hcr, hcr2⟩ := hX.cr
  refine Con.of (by decide) (Nat.le_of_ble_eq_true rfl) ?_
  refine XG.blk tX8_hours_ok 0 1 (pc' := 1) (pl' := [some (.ref 0), some (.int (nI n))]) (st' := [(.int (nI n))]) (W1 := (sW bv tv ta tb uv ua ub rv ra rb rt se pv pa gv ga ov oa qv qa hv ha nv na yv ya cf cs)) (bs := []) rfl rfl rfl ?_
  refine XG.br eX8_hours_1 (P := (nI n) < 0) (r := []) rfl (tgt := 10) (by decide) (fun h1 => ?_) (fun h1 => ?_)
  · exfalso
    have g1 : n < 0 := (nI_ltI (a := n) (b := 0) (by omega) (by omega)).mp h1
    omega
  · skip
    have g1 : ¬ n < 0 := (fun z_9 => h1 ((nI_ltI (a := n) (b := 0) (by omega) (by omega)).mpr z_9))
    refine XG.blk tX8_hours_ok 2 2 (pc' := 7) (pl' := [some (.ref 0), some (.int (nI n))]) (st' := [(.int (nI 24)), (.int (nI n))]) (W1 := (sW bv tv ta tb uv ua ub rv ra rb rt se pv pa gv ga ov oa qv qa hv ha nv na yv ya cf cs)) (bs := []) rfl rfl rfl ?_
    refine XG.br eX8_hours_7 (P := (nI n) ≤ (nI 24)) (r := []) rfl (tgt := 12) (by decide) (fun h7 => ?_) (fun h7 => ?_)
    · skip
      have g7 : n ≤ 24 := (nI_leI (a := n) (b := 24) (by omega) (by omega)).mp h7
      refine XG.blk tX8_hours_ok 7 1 (pc' := 13) (pl' := [some (.ref 0), some (.int (nI n))]) (st' := [(.int (nI n))]) (W1 := (sW bv tv ta tb uv ua ub rv ra rb rt se pv pa gv ga ov oa qv qa hv ha nv na yv ya cf cs)) (bs := []) rfl rfl rfl ?_
      refine XG.br eX8_hours_13 (P := (nI n) ≤ 0) (r := []) rfl (tgt := 40) (by decide) (fun h13 => ?_) (fun h13 => ?_)
      · exfalso
        have g13 : n ≤ 0 := (nI_leI (a := n) (b := 0) (by omega) (by omega)).mp h13
        omega
      · skip
        have g13 : ¬ n ≤ 0 := (fun z_9 => h13 ((nI_leI (a := n) (b := 0) (by omega) (by omega)).mpr z_9))
        refine XG.blk tX8_hours_ok 9 1 (pc' := 17) (pl' := [some (.ref 0), some (.int (nI n))]) (st' := [(.ref 0)]) (W1 := (sW bv tv ta tb uv ua ub rv ra rb rt se pv pa gv ga ov oa qv qa hv ha nv na yv ya cf cs)) (bs := []) rfl rfl rfl ?_
        refine XG.callV0 eX8_hours_17 kl_X8_164 (cs_remember (d - 1) bv tv ta tb uv ua ub rv ra rb rt se pv pa gv ga ov oa qv qa hv ha nv na yv ya cf cs np u hnp hu2 e11 e10 (by omega)) (px_fitS (by omega)) rfl rfl rfl (Nat.le_of_ble_eq_true rfl) (fun r9 W9 hp9 hl9 => ?_)
        obtain ⟨rfl, rfl⟩ := hp9
        show XG _ _ _ _ _ _ [] (sW (va_up (va_up bv 11 (nI ((np + 1) % 40))) 10 (nI (min (u + 1) 40))) tv ta tb uv ua ub rv ra rb rt se pv pa gv ga ov oa qv qa hv ha nv na yv ya (stF cf np nv na) cs)
        have q1 : (tv 6) = (a 37 lv) := hX.sd.1.trans hX.sd.2.2.symm
        refine XG.blk tX8_hours_ok 11 9 (pc' := 37) (pl' := [some (.ref 0), some (.int (nI n))]) (st' := [(.int (tv 6)), (.int (nI 0)), (.int (nI n)), (.ref 68), (.ref 37)]) (W1 := (sW (va_up (va_up bv 11 (nI ((np + 1) % 40))) 10 (nI (min (u + 1) 40))) tv ta tb uv ua ub rv ra rb rt se pv pa gv ga ov oa qv qa hv ha nv na yv ya (stF cf np nv na) cs)) (bs := []) rfl rfl rfl ?_
        simp only [q1]
        refine XG.callV (ro := [37, 38, 1, 2, 3, 4, 5, 6, 7, 8, 9, 10, 11, 12, 13, 14, 15, 68, 69, 70, 71, 72]) (W1 := (rW se tv ta tb nv na)) eX8_hours_37 kl_X8_182 (cc_passHours (d - 1) se tv ta tb nv na S lv (aQ a) hX (a 54) hN (vQ v a lv 0) n H (by omega) hGR (by omega) (by omega)) (px_fitS (by omega)) rfl ⟨rfl, by decide, by decide⟩ rfl rfl (Nat.le_of_ble_eq_true rfl) (fun r9 W9 hp9 hl9 => ?_)
        obtain ⟨se2, sk2, nv2, na2, rfl, hN2, rfl⟩ := hp9
        rw [pt_srn]
        show XG _ _ _ _ _ _ [] (sW (va_up (va_up bv 11 (nI ((np + 1) % 40))) 10 (nI (min (u + 1) 40))) tv (va_up ta 22 sk2) tb uv ua ub rv ra rb rt se2 pv pa gv ga ov oa qv qa hv ha nv2 na2 yv ya (stF cf np nv na) cs)
        refine XG.blk tX8_hours_ok 21 3 (pc' := 47) (pl' := [some (.ref 0), some (.int (nI n))]) (st' := [(.int (nv2 0))]) (W1 := (sW (va_up (va_up bv 11 (nI ((np + 1) % 40))) 10 (nI (min (u + 1) 40))) tv (va_up ta 22 sk2) tb uv ua ub rv ra rb rt se2 pv pa gv ga ov oa qv qa hv ha nv2 na2 yv ya (stF cf np nv na) cs)) (bs := []) rfl rfl rfl ?_
        refine XS.iret eX8_hours_47 rfl rfl ?_
        exact ⟨_, _, _, _, rfl, (chg.up (by decide)), hN2, by rw [hN2.1]⟩
    · exfalso
      have g7 : ¬ n ≤ 24 := (fun z_9 => h7 ((nI_leI (a := n) (b := 24) (by omega) (by omega)).mpr z_9))
      omega
set_option maxHeartbeats 1000000 in
theorem cs_hoursO (d : Nat) (bv : Nat → Int32) (tv : Nat → Int32) (ta : Nat → Nat → Int32) (tb : Nat → Nat → Int64) (uv : Nat → Int32) (ua : Nat → Nat → Int32) (ub : Nat → Nat → Int64) (rv : Nat → Int32) (ra : Nat → Nat → Int32) (rb : Nat → Nat → Int64) (rt : Value) (se : Nat → Int32) (pv : Nat → Int32) (pa : Nat → Nat → Int32) (gv : Nat → Int32) (ga : Nat → Nat → Int32) (ov : Nat → Int32) (oa : Nat → Nat → Int32) (qv : Nat → Int32) (qa : Nat → Nat → Int32) (hv : Nat → Int32) (ha : Nat → Nat → Int32) (nv : Nat → Int32) (na : Nat → Nat → Int32) (yv : Nat → Int32) (ya : Nat → Nat → Int32) (cf : Nat → Int32) (cs : Nat → Int32) (S : SD) (lv : Nat) (v : Nat → Int32) (a : Nat → Nat → Int32) (hX : CX S lv (aQ a) tv ta) (hN : CNt S (a 54) nv na) (np u : Nat) (hnp : np < 40) (hu2 : u ≤ 40) (e11 : bv 11 = nI np) (e10 : bv 10 = nI u) (p : Int32) (hno : ¬ ((nI 0 ≤ p ∧ p ≤ nI 24) ∧ ¬ p = 0)) (hd : 6 ≤ d) : Con mX8_hours d [.ref 0, .int p] (sW bv tv ta tb uv ua ub rv ra rb rt se pv pa gv ga ov oa qv qa hv ha nv na yv ya cf cs) (fun r W' => W' = (sW bv tv ta tb uv ua ub rv ra rb rt se pv pa gv ga ov oa qv qa hv ha nv na yv ya cf cs) ∧ r = some (.int (if p = 0 then a 54 28 else -1))) := by
  refine Con.of (by decide) (Nat.le_of_ble_eq_true rfl) ?_
  refine XG.blk tX8_hours_ok 0 1 (pc' := 1) (pl' := [some (.ref 0), some (.int p)]) (st' := [(.int p)]) (W1 := (sW bv tv ta tb uv ua ub rv ra rb rt se pv pa gv ga ov oa qv qa hv ha nv na yv ya cf cs)) (bs := []) rfl rfl rfl ?_
  refine XG.br eX8_hours_1 (P := p < 0) (r := []) rfl (tgt := 10) (by decide) (fun h1 => ?_) (fun h1 => ?_)
  · skip
    refine XG.blk tX8_hours_ok 5 1 (pc' := 11) (pl' := [some (.ref 0), some (.int p)]) (st' := [(.int (-1))]) (W1 := (sW bv tv ta tb uv ua ub rv ra rb rt se pv pa gv ga ov oa qv qa hv ha nv na yv ya cf cs)) (bs := []) rfl rfl rfl ?_
    refine XS.iret eX8_hours_11 rfl rfl ?_
    exact ⟨rfl, by rw [if_neg (fun w => by subst w; first | exact absurd h1 (by decide) | exact h7 (by decide))]⟩
  · skip
    refine XG.blk tX8_hours_ok 2 2 (pc' := 7) (pl' := [some (.ref 0), some (.int p)]) (st' := [(.int (nI 24)), (.int p)]) (W1 := (sW bv tv ta tb uv ua ub rv ra rb rt se pv pa gv ga ov oa qv qa hv ha nv na yv ya cf cs)) (bs := []) rfl rfl rfl ?_
    refine XG.br eX8_hours_7 (P := p ≤ (nI 24)) (r := []) rfl (tgt := 12) (by decide) (fun h7 => ?_) (fun h7 => ?_)
    · skip
      refine XG.blk tX8_hours_ok 7 1 (pc' := 13) (pl' := [some (.ref 0), some (.int p)]) (st' := [(.int p)]) (W1 := (sW bv tv ta tb uv ua ub rv ra rb rt se pv pa gv ga ov oa qv qa hv ha nv na yv ya cf cs)) (bs := []) rfl rfl rfl ?_
      refine XG.br eX8_hours_13 (P := p ≤ 0) (r := []) rfl (tgt := 40) (by decide) (fun h13 => ?_) (fun h13 => ?_)
      · skip
        refine XG.blk tX8_hours_ok 21 3 (pc' := 47) (pl' := [some (.ref 0), some (.int p)]) (st' := [(.int (nv 0))]) (W1 := (sW bv tv ta tb uv ua ub rv ra rb rt se pv pa gv ga ov oa qv qa hv ha nv na yv ya cf cs)) (bs := []) rfl rfl rfl ?_
        refine XS.iret eX8_hours_47 rfl rfl ?_
        have e0 : p = 0 := Classical.byContradiction (fun w => hno ⟨⟨Int32.not_lt.mp h1, h7⟩, w⟩)
        exact ⟨rfl, by rw [if_pos e0, hN.1]⟩
      · exfalso
        exact hno ⟨⟨Int32.not_lt.mp h1, h7⟩, fun w => h13 (by rw [w]; decide)⟩
    · skip
      refine XG.blk tX8_hours_ok 5 1 (pc' := 11) (pl' := [some (.ref 0), some (.int p)]) (st' := [(.int (-1))]) (W1 := (sW bv tv ta tb uv ua ub rv ra rb rt se pv pa gv ga ov oa qv qa hv ha nv na yv ya cf cs)) (bs := []) rfl rfl rfl ?_
      refine XS.iret eX8_hours_11 rfl rfl ?_
      exact ⟨rfl, by rw [if_neg (fun w => by subst w; first | exact absurd h1 (by decide) | exact h7 (by decide))]⟩
theorem cs_hours (d : Nat) (bv : Nat → Int32) (tv : Nat → Int32) (ta : Nat → Nat → Int32) (tb : Nat → Nat → Int64) (uv : Nat → Int32) (ua : Nat → Nat → Int32) (ub : Nat → Nat → Int64) (rv : Nat → Int32) (ra : Nat → Nat → Int32) (rb : Nat → Nat → Int64) (rt : Value) (se : Nat → Int32) (pv : Nat → Int32) (pa : Nat → Nat → Int32) (gv : Nat → Int32) (ga : Nat → Nat → Int32) (ov : Nat → Int32) (oa : Nat → Nat → Int32) (qv : Nat → Int32) (qa : Nat → Nat → Int32) (hv : Nat → Int32) (ha : Nat → Nat → Int32) (nv : Nat → Int32) (na : Nat → Nat → Int32) (yv : Nat → Int32) (ya : Nat → Nat → Int32) (cf : Nat → Int32) (cs : Nat → Int32) (S : SD) (lv : Nat) (v : Nat → Int32) (a : Nat → Nat → Int32) (hX : CX S lv (aQ a) tv ta) (hN : CNt S (a 54) nv na) (np u : Nat) (hnp : np < 40) (hu2 : u ≤ 40) (e11 : bv 11 = nI np) (e10 : bv 10 = nI u) (H : Nat) (hGR : GR S H (a 54)) (hH : H ≤ 50000) (p : Int32) (hd : 6 ≤ d) : Con mX8_hours d [.ref 0, .int p] (sW bv tv ta tb uv ua ub rv ra rb rt se pv pa gv ga ov oa qv qa hv ha nv na yv ya cf cs) (fun r W' => (((nI 0 ≤ p ∧ p ≤ nI 24) ∧ ¬ p = 0) ∧ ∃ nv' na' se' ta', W' = (sW (va_up (va_up bv 11 (nI ((np + 1) % 40))) 10 (nI (min (u + 1) 40))) tv ta' tb uv ua ub rv ra rb rt se' pv pa gv ga ov oa qv qa hv ha nv' na' yv ya (stF cf np nv na) cs) ∧ chg [22] ta ta' ∧ CNt S (hoursR v a lv (S.1 23) (S.1 24) (S.1 31) p.toNatClampNeg) nv' na' ∧ r = some (.int ((hoursR v a lv (S.1 23) (S.1 24) (S.1 31) p.toNatClampNeg) 28))) ∨ (¬ ((nI 0 ≤ p ∧ p ≤ nI 24) ∧ ¬ p = 0) ∧ W' = (sW bv tv ta tb uv ua ub rv ra rb rt se pv pa gv ga ov oa qv qa hv ha nv na yv ya cf cs) ∧ r = some (.int (if p = 0 then a 54 28 else -1)))) := by
  by_cases hok : ((nI 0 ≤ p ∧ p ≤ nI 24) ∧ ¬ p = 0)
  · obtain ⟨n, -, hn, rfl⟩ := in_nat (by omega) (by omega) hok.1
    have hn1 : 1 ≤ n := by
      rcases Nat.eq_zero_or_pos n with e | e
      · subst e; exact absurd rfl hok.2
      · exact e
    refine (cs_hoursI d bv tv ta tb uv ua ub rv ra rb rt se pv pa gv ga ov oa qv qa hv ha nv na yv ya cf cs S lv v a hX hN np u hnp hu2 e11 e10 H hGR hH n hn1 hn hd).mono (fun r W' hp => Or.inl ⟨hok, ?_⟩)
    rw [nI_clamp (show n < 2 ^ 31 by omega)]
    exact hp
  · exact (cs_hoursO d bv tv ta tb uv ua ub rv ra rb rt se pv pa gv ga ov oa qv qa hv ha nv na yv ya cf cs S lv v a hX hN np u hnp hu2 e11 e10 p hok hd).mono (fun r W' hp => Or.inr ⟨hok, hp⟩)
set_option maxHeartbeats 1000000 in
theorem cs_night (d : Nat) (bv : Nat → Int32) (tv : Nat → Int32) (ta : Nat → Nat → Int32) (tb : Nat → Nat → Int64) (uv : Nat → Int32) (ua : Nat → Nat → Int32) (ub : Nat → Nat → Int64) (rv : Nat → Int32) (ra : Nat → Nat → Int32) (rb : Nat → Nat → Int64) (rt : Value) (se : Nat → Int32) (pv : Nat → Int32) (pa : Nat → Nat → Int32) (gv : Nat → Int32) (ga : Nat → Nat → Int32) (ov : Nat → Int32) (oa : Nat → Nat → Int32) (qv : Nat → Int32) (qa : Nat → Nat → Int32) (hv : Nat → Int32) (ha : Nat → Nat → Int32) (nv : Nat → Int32) (na : Nat → Nat → Int32) (yv : Nat → Int32) (ya : Nat → Nat → Int32) (cf : Nat → Int32) (cs : Nat → Int32) (S : SD) (lv : Nat) (a : Nat → Nat → Int32) (hX : CX S lv (aQ a) tv ta) (hN : CNt S (a 54) nv na) (np u : Nat) (hnp : np < 40) (hu2 : u ≤ 40) (e11 : bv 11 = nI np) (e10 : bv 10 = nI u) (hXR : XR S (a 54)) (H : Nat) (hGR : GR S H (a 54)) (hd : 4 ≤ d) : Con mX8_night d [.ref 0] (sW bv tv ta tb uv ua ub rv ra rb rt se pv pa gv ga ov oa qv qa hv ha nv na yv ya cf cs) (fun r W' => ∃ nv' na', W' = (sW (va_up (va_up bv 11 (nI ((np + 1) % 40))) 10 (nI (min (u + 1) 40))) tv ta tb uv ua ub rv ra rb rt se pv pa gv ga ov oa qv qa hv ha nv' na' yv ya (stF cf np nv na) cs) ∧ CNt S (nightR a lv (S.1 24) (S.1 31)) nv' na' ∧ r = some (.int ((nightR a lv (S.1 24) (S.1 31)) 29))) := by
  obtain ⟨hsp, hsp1, hsp2⟩ := hX.sp
  obtain ⟨hsl, hsl2⟩ := hX.sl
  obtain ⟨hcr, hcr2⟩ := hX.cr
  refine Con.of (by decide) (Nat.le_of_ble_eq_true rfl) ?_
  refine XG.blk tX8_night_ok 0 1 (pc' := 1) (pl' := [some (.ref 0)]) (st' := [(.ref 0)]) (W1 := (sW bv tv ta tb uv ua ub rv ra rb rt se pv pa gv ga ov oa qv qa hv ha nv na yv ya cf cs)) (bs := []) rfl rfl rfl ?_
  refine XG.callV0 eX8_night_1 kl_X8_164 (cs_remember (d - 1) bv tv ta tb uv ua ub rv ra rb rt se pv pa gv ga ov oa qv qa hv ha nv na yv ya cf cs np u hnp hu2 e11 e10 (by omega)) (px_fitS (by omega)) rfl rfl rfl (Nat.le_of_ble_eq_true rfl) (fun r9 W9 hp9 hl9 => ?_)
  obtain ⟨rfl, rfl⟩ := hp9
  show XG _ _ _ _ _ _ [] (sW (va_up (va_up bv 11 (nI ((np + 1) % 40))) 10 (nI (min (u + 1) 40))) tv ta tb uv ua ub rv ra rb rt se pv pa gv ga ov oa qv qa hv ha nv na yv ya (stF cf np nv na) cs)
  refine XG.blk tX8_night_ok 2 4 (pc' := 12) (pl' := [some (.ref 0)]) (st' := [(.ref 1), (.ref 68)]) (W1 := (sW (va_up (va_up bv 11 (nI ((np + 1) % 40))) 10 (nI (min (u + 1) 40))) tv ta tb uv ua ub rv ra rb rt se pv pa gv ga ov oa qv qa hv ha nv na yv ya (stF cf np nv na) cs)) (bs := []) rfl rfl rfl ?_
  refine XG.callV (ro := [68, 69, 70, 71, 72, 1, 2, 3, 4, 5, 6, 7, 8, 9, 10, 11, 12, 13, 14, 15]) (W1 := (bW nv na tv ta tb)) eX8_night_12 kl_X8_186 (cc_beginNext (d - 1) nv na tv ta tb S lv (aQ a) hX (a 54) hN hXR H hGR (by omega)) (px_fitS (by omega)) rfl ⟨rfl, by decide, by decide⟩ rfl rfl (Nat.le_of_ble_eq_true rfl) (fun r9 W9 hp9 hl9 => ?_)
  obtain ⟨nv2, na2, rfl, hN2, rfl⟩ := hp9
  rw [pt_sb]
  show XG _ _ _ _ _ _ [] (sW (va_up (va_up bv 11 (nI ((np + 1) % 40))) 10 (nI (min (u + 1) 40))) tv ta tb uv ua ub rv ra rb rt se pv pa gv ga ov oa qv qa hv ha nv2 na2 yv ya (stF cf np nv na) cs)
  refine XG.blk tX8_night_ok 7 3 (pc' := 22) (pl' := [some (.ref 0)]) (st' := [(.int (nv2 1))]) (W1 := (sW (va_up (va_up bv 11 (nI ((np + 1) % 40))) 10 (nI (min (u + 1) 40))) tv ta tb uv ua ub rv ra rb rt se pv pa gv ga ov oa qv qa hv ha nv2 na2 yv ya (stF cf np nv na) cs)) (bs := []) rfl rfl rfl ?_
  refine XS.iret eX8_night_22 rfl rfl ?_
  exact ⟨_, _, rfl, hN2, congrArg (fun z => some (Value.int z)) hN2.2.1⟩
set_option maxHeartbeats 1000000 in
theorem cs_undo (d : Nat) (bv : Nat → Int32) (tv : Nat → Int32) (ta : Nat → Nat → Int32) (tb : Nat → Nat → Int64) (uv : Nat → Int32) (ua : Nat → Nat → Int32) (ub : Nat → Nat → Int64) (rv : Nat → Int32) (ra : Nat → Nat → Int32) (rb : Nat → Nat → Int64) (rt : Value) (se : Nat → Int32) (pv : Nat → Int32) (pa : Nat → Nat → Int32) (gv : Nat → Int32) (ga : Nat → Nat → Int32) (ov : Nat → Int32) (oa : Nat → Nat → Int32) (qv : Nat → Int32) (qa : Nat → Nat → Int32) (hv : Nat → Int32) (ha : Nat → Nat → Int32) (nv : Nat → Int32) (na : Nat → Nat → Int32) (yv : Nat → Int32) (ya : Nat → Nat → Int32) (cf : Nat → Int32) (cs : Nat → Int32) (np u : Nat) (hnp : np < 40) (hu2 : u ≤ 40) (e11 : bv 11 = nI np) (e10 : bv 10 = nI u) (hd : 3 ≤ d) : Con mX8_undo d [.ref 0] (sW bv tv ta tb uv ua ub rv ra rb rt se pv pa gv ga ov oa qv qa hv ha nv na yv ya cf cs) (fun r W' => (u = 0 ∧ W' = (sW bv tv ta tb uv ua ub rv ra rb rt se pv pa gv ga ov oa qv qa hv ha nv na yv ya cf cs) ∧ r = some (.int 0)) ∨ (1 ≤ u ∧ ∃ nv' na', W' = (sW (va_up (va_up bv 10 (nI (u - 1))) 11 (nI ((np + 39) % 40))) tv ta tb uv ua ub rv ra rb rt se pv pa gv ga ov oa qv qa hv ha nv' na' yv ya cf cs) ∧ NEq (shv cf ((np + 39) % 40)) (sha cf ((np + 39) % 40)) nv' na' ∧ r = some (.int 1))) := by
  refine Con.of (by decide) (Nat.le_of_ble_eq_true rfl) ?_
  have q1 : (bv 10) = (nI u) := e10
  refine XG.blk tX8_undo_ok 0 2 (pc' := 4) (pl' := [some (.ref 0)]) (st' := [(.int (bv 10))]) (W1 := (sW bv tv ta tb uv ua ub rv ra rb rt se pv pa gv ga ov oa qv qa hv ha nv na yv ya cf cs)) (bs := []) rfl rfl rfl ?_
  simp only [q1]
  refine XG.br eX8_undo_4 (P := ¬ (nI u) = 0) (r := []) rfl (tgt := 9) (by decide) (fun h4 => ?_) (fun h4 => ?_)
  · skip
    have g4 : ¬ u = 0 := (fun z_9 => h4 ((nI_eq (a := u) (b := 0) (by omega) (by omega)).mpr z_9))
    have q2 : (bv 10) = (nI u) := e10
    have q3 : ((nI u) - (nI 1)) = (nI (u - 1)) := px_esub rfl rfl (by omega)
    have q4 : (bv 11) = (nI np) := e11
    have q5 : ((nI np) + (nI 40)) = (nI (np + 40)) := px_eadd rfl rfl
    have q6 : ((nI (np + 40)) - (nI 1)) = (nI ((np + 40) - 1)) := px_esub rfl rfl (by omega)
    have q7 : ((nI ((np + 40) - 1)) - (nI ((np + 40) - 1)) / (nI 40) * (nI 40)) = (nI ((np + 39) % 40)) := (rem40 ⟨np + 40 - 1, by omega⟩).trans (congrArg (fun z => nI (z % 40)) (show np + 40 - 1 = np + 39 by omega))
    refine XG.blk tX8_undo_ok 5 22 (pc' := 47) (pl' := [some (.ref 0)]) (st' := [(.ref 68), (.int ((((bv 11) + (nI 40)) - (nI 1)) - (((bv 11) + (nI 40)) - (nI 1)) / (nI 40) * (nI 40))), (.ref 78)]) (W1 := (sW (va_up (va_up bv 10 ((bv 10) - (nI 1))) 11 ((((bv 11) + (nI 40)) - (nI 1)) - (((bv 11) + (nI 40)) - (nI 1)) / (nI 40) * (nI 40))) tv ta tb uv ua ub rv ra rb rt se pv pa gv ga ov oa qv qa hv ha nv na yv ya cf cs)) (bs := [!((nI 40) == 0)]) rfl rfl (by (try simp only [q2, q3, q4, q5, q6, q7]); exact (px_all (rfl) rfl)) ?_
    simp only [q2, q3, q4, q5, q6, q7]
    refine XG.callV (ro := [78, 79, 68, 69, 70, 71, 72]) (W1 := (hW 1080 cf nv na)) eX8_undo_47 kl_X8_198 (cc_fetch40 (d - 1) cf nv na ((np + 39) % 40) (Nat.mod_lt _ (by decide)) (by omega)) (px_fitS (by omega)) rfl ⟨rfl, by decide, by decide⟩ rfl rfl (Nat.le_of_ble_eq_true rfl) (fun r9 W9 hp9 hl9 => ?_)
    obtain ⟨nv2, na2, rfl, hE, rfl⟩ := hp9
    rw [pt_shp]
    show XG _ _ _ _ _ _ [] (sW (va_up (va_up bv 10 (nI (u - 1))) 11 (nI ((np + 39) % 40))) tv ta tb uv ua ub rv ra rb rt se pv pa gv ga ov oa qv qa hv ha nv2 na2 yv ya cf cs)
    refine XG.blk tX8_undo_ok 28 1 (pc' := 51) (pl' := [some (.ref 0)]) (st' := [(.int (nI 1))]) (W1 := (sW (va_up (va_up bv 10 (nI (u - 1))) 11 (nI ((np + 39) % 40))) tv ta tb uv ua ub rv ra rb rt se pv pa gv ga ov oa qv qa hv ha nv2 na2 yv ya cf cs)) (bs := []) rfl rfl rfl ?_
    refine XS.iret eX8_undo_51 rfl (by decide) ?_
    exact Or.inr ⟨by omega, _, _, rfl, hE, rfl⟩
  · skip
    have h4 := Decidable.not_not.mp h4
    have g4 : u = 0 := (nI_eq (a := u) (b := 0) (by omega) (by omega)).mp h4
    refine XG.blk tX8_undo_ok 3 1 (pc' := 8) (pl' := [some (.ref 0)]) (st' := [(.int (nI 0))]) (W1 := (sW bv tv ta tb uv ua ub rv ra rb rt se pv pa gv ga ov oa qv qa hv ha nv na yv ya cf cs)) (bs := []) rfl rfl rfl ?_
    refine XS.iret eX8_undo_8 rfl (by decide) ?_
    exact Or.inl ⟨g4, rfl, rfl⟩
set_option maxHeartbeats 1000000 in
theorem cs_holdI (d : Nat) (bv : Nat → Int32) (tv : Nat → Int32) (ta : Nat → Nat → Int32) (tb : Nat → Nat → Int64) (uv : Nat → Int32) (ua : Nat → Nat → Int32) (ub : Nat → Nat → Int64) (rv : Nat → Int32) (ra : Nat → Nat → Int32) (rb : Nat → Nat → Int64) (rt : Value) (se : Nat → Int32) (pv : Nat → Int32) (pa : Nat → Nat → Int32) (gv : Nat → Int32) (ga : Nat → Nat → Int32) (ov : Nat → Int32) (oa : Nat → Nat → Int32) (qv : Nat → Int32) (qa : Nat → Nat → Int32) (hv : Nat → Int32) (ha : Nat → Nat → Int32) (nv : Nat → Int32) (na : Nat → Nat → Int32) (yv : Nat → Int32) (ya : Nat → Nat → Int32) (cf : Nat → Int32) (cs : Nat → Int32) (f : Nat) (hf : bv 12 = nI f) (hf8 : f < 8) (x : Nat) (hx : x < 3) (hd : 2 ≤ d) : Con mX8_hold d [.ref 0, .int (nI x)] (sW bv tv ta tb uv ua ub rv ra rb rt se pv pa gv ga ov oa qv qa hv ha nv na yv ya cf cs) (fun r W' => W' = (sW (va_up bv 12 (nI (f ||| 2 ^ x))) tv ta tb uv ua ub rv ra rb rt se pv pa gv ga ov oa qv qa hv ha nv na yv ya cf (stF cs x nv na)) ∧ r = some (.int 1)) := by
  refine Con.of (by decide) (Nat.le_of_ble_eq_true rfl) ?_
  refine XG.blk tX8_hold_ok 0 1 (pc' := 1) (pl' := [some (.ref 0), some (.int (nI x))]) (st' := [(.int (nI x))]) (W1 := (sW bv tv ta tb uv ua ub rv ra rb rt se pv pa gv ga ov oa qv qa hv ha nv na yv ya cf cs)) (bs := []) rfl rfl rfl ?_
  refine XG.br eX8_hold_1 (P := (nI x) < 0) (r := []) rfl (tgt := 9) (by decide) (fun h1 => ?_) (fun h1 => ?_)
  · exfalso
    have g1 : x < 0 := (nI_ltI (a := x) (b := 0) (by omega) (by omega)).mp h1
    omega
  · skip
    have g1 : ¬ x < 0 := (fun z_9 => h1 ((nI_ltI (a := x) (b := 0) (by omega) (by omega)).mpr z_9))
    refine XG.blk tX8_hold_ok 2 2 (pc' := 6) (pl' := [some (.ref 0), some (.int (nI x))]) (st' := [(.int (nI 3)), (.int (nI x))]) (W1 := (sW bv tv ta tb uv ua ub rv ra rb rt se pv pa gv ga ov oa qv qa hv ha nv na yv ya cf cs)) (bs := []) rfl rfl rfl ?_
    refine XG.br eX8_hold_6 (P := (nI x) < (nI 3)) (r := []) rfl (tgt := 11) (by decide) (fun h6 => ?_) (fun h6 => ?_)
    · skip
      have g6 : x < 3 := (nI_ltI (a := x) (b := 3) (by omega) (by omega)).mp h6
      refine XG.blk tX8_hold_ok 7 5 (pc' := 20) (pl' := [some (.ref 0), some (.int (nI x))]) (st' := [(.ref 68), (.int (nI x)), (.ref 80)]) (W1 := (sW bv tv ta tb uv ua ub rv ra rb rt se pv pa gv ga ov oa qv qa hv ha nv na yv ya cf cs)) (bs := []) rfl rfl rfl ?_
      refine XG.callV (ro := [80, 81, 68, 69, 70, 71, 72]) (W1 := (hW 81 cs nv na)) eX8_hold_20 kl_X8_279 (cc_store3 (d - 1) cs nv na x hx (by omega)) (px_fitS (by omega)) rfl ⟨rfl, by decide, by decide⟩ rfl rfl (Nat.le_of_ble_eq_true rfl) (fun r9 W9 hp9 hl9 => ?_)
      obtain ⟨rfl, rfl⟩ := hp9
      rw [pt_shs]
      show XG _ _ _ _ _ _ [] (sW bv tv ta tb uv ua ub rv ra rb rt se pv pa gv ga ov oa qv qa hv ha nv na yv ya cf (stF cs x nv na))
      have q1 : (bv 12) = (nI f) := hf
      have q2 : ((nI f) ||| ((nI 1) <<< ((nI x) &&& 31))) = (nI (f ||| 2 ^ x)) := or_pow ⟨f, by omega⟩ ⟨x, by omega⟩
      refine XG.blk tX8_hold_ok 13 9 (pc' := 36) (pl' := [some (.ref 0), some (.int (nI x))]) (st' := [(.int (nI 1))]) (W1 := (sW (va_up bv 12 ((bv 12) ||| ((nI 1) <<< ((nI x) &&& 31)))) tv ta tb uv ua ub rv ra rb rt se pv pa gv ga ov oa qv qa hv ha nv na yv ya cf (stF cs x nv na))) (bs := []) rfl rfl rfl ?_
      simp only [q1, q2]
      refine XS.iret eX8_hold_36 rfl (by decide) ?_
      exact ⟨rfl, rfl⟩
    · exfalso
      have g6 : ¬ x < 3 := (fun z_9 => h6 ((nI_ltI (a := x) (b := 3) (by omega) (by omega)).mpr z_9))
      omega
set_option maxHeartbeats 1000000 in
theorem cs_holdO (d : Nat) (bv : Nat → Int32) (tv : Nat → Int32) (ta : Nat → Nat → Int32) (tb : Nat → Nat → Int64) (uv : Nat → Int32) (ua : Nat → Nat → Int32) (ub : Nat → Nat → Int64) (rv : Nat → Int32) (ra : Nat → Nat → Int32) (rb : Nat → Nat → Int64) (rt : Value) (se : Nat → Int32) (pv : Nat → Int32) (pa : Nat → Nat → Int32) (gv : Nat → Int32) (ga : Nat → Nat → Int32) (ov : Nat → Int32) (oa : Nat → Nat → Int32) (qv : Nat → Int32) (qa : Nat → Nat → Int32) (hv : Nat → Int32) (ha : Nat → Nat → Int32) (nv : Nat → Int32) (na : Nat → Nat → Int32) (yv : Nat → Int32) (ya : Nat → Nat → Int32) (cf : Nat → Int32) (cs : Nat → Int32) (p : Int32) (hp : ¬ px_vb p 3 = true) (hd : 2 ≤ d) : Con mX8_hold d [.ref 0, .int p] (sW bv tv ta tb uv ua ub rv ra rb rt se pv pa gv ga ov oa qv qa hv ha nv na yv ya cf cs) (fun r W' => W' = (sW bv tv ta tb uv ua ub rv ra rb rt se pv pa gv ga ov oa qv qa hv ha nv na yv ya cf cs) ∧ r = some (.int 0)) := by
  refine Con.of (by decide) (Nat.le_of_ble_eq_true rfl) ?_
  refine XG.blk tX8_hold_ok 0 1 (pc' := 1) (pl' := [some (.ref 0), some (.int p)]) (st' := [(.int p)]) (W1 := (sW bv tv ta tb uv ua ub rv ra rb rt se pv pa gv ga ov oa qv qa hv ha nv na yv ya cf cs)) (bs := []) rfl rfl rfl ?_
  refine XG.br eX8_hold_1 (P := p < 0) (r := []) rfl (tgt := 9) (by decide) (fun h1 => ?_) (fun h1 => ?_)
  · skip
    refine XG.blk tX8_hold_ok 5 1 (pc' := 10) (pl' := [some (.ref 0), some (.int p)]) (st' := [(.int (nI 0))]) (W1 := (sW bv tv ta tb uv ua ub rv ra rb rt se pv pa gv ga ov oa qv qa hv ha nv na yv ya cf cs)) (bs := []) rfl rfl rfl ?_
    refine XS.iret eX8_hold_10 rfl (by decide) ?_
    exact ⟨rfl, rfl⟩
  · skip
    refine XG.blk tX8_hold_ok 2 2 (pc' := 6) (pl' := [some (.ref 0), some (.int p)]) (st' := [(.int (nI 3)), (.int p)]) (W1 := (sW bv tv ta tb uv ua ub rv ra rb rt se pv pa gv ga ov oa qv qa hv ha nv na yv ya cf cs)) (bs := []) rfl rfl rfl ?_
    refine XG.br eX8_hold_6 (P := p < (nI 3)) (r := []) rfl (tgt := 11) (by decide) (fun h6 => ?_) (fun h6 => ?_)
    · exfalso
      exact hp (vb_3 h1 h6)
    · skip
      refine XG.blk tX8_hold_ok 5 1 (pc' := 10) (pl' := [some (.ref 0), some (.int p)]) (st' := [(.int (nI 0))]) (W1 := (sW bv tv ta tb uv ua ub rv ra rb rt se pv pa gv ga ov oa qv qa hv ha nv na yv ya cf cs)) (bs := []) rfl rfl rfl ?_
      refine XS.iret eX8_hold_10 rfl (by decide) ?_
      exact ⟨rfl, rfl⟩
theorem cs_hold (d : Nat) (bv : Nat → Int32) (tv : Nat → Int32) (ta : Nat → Nat → Int32) (tb : Nat → Nat → Int64) (uv : Nat → Int32) (ua : Nat → Nat → Int32) (ub : Nat → Nat → Int64) (rv : Nat → Int32) (ra : Nat → Nat → Int32) (rb : Nat → Nat → Int64) (rt : Value) (se : Nat → Int32) (pv : Nat → Int32) (pa : Nat → Nat → Int32) (gv : Nat → Int32) (ga : Nat → Nat → Int32) (ov : Nat → Int32) (oa : Nat → Nat → Int32) (qv : Nat → Int32) (qa : Nat → Nat → Int32) (hv : Nat → Int32) (ha : Nat → Nat → Int32) (nv : Nat → Int32) (na : Nat → Nat → Int32) (yv : Nat → Int32) (ya : Nat → Nat → Int32) (cf : Nat → Int32) (cs : Nat → Int32) (f : Nat) (hf : bv 12 = nI f) (hf8 : f < 8) (p : Int32) (hd : 2 ≤ d) : Con mX8_hold d [.ref 0, .int p] (sW bv tv ta tb uv ua ub rv ra rb rt se pv pa gv ga ov oa qv qa hv ha nv na yv ya cf cs) (fun r W' => (¬ px_vb p 3 = true ∧ W' = (sW bv tv ta tb uv ua ub rv ra rb rt se pv pa gv ga ov oa qv qa hv ha nv na yv ya cf cs) ∧ r = some (.int 0)) ∨ (px_vb p 3 = true ∧ W' = (sW (va_up bv 12 (nI (f ||| 2 ^ p.toNatClampNeg))) tv ta tb uv ua ub rv ra rb rt se pv pa gv ga ov oa qv qa hv ha nv na yv ya cf (stF cs p.toNatClampNeg nv na)) ∧ r = some (.int 1))) := by
  by_cases hp : px_vb p 3 = true
  · obtain ⟨x, hx, rfl⟩ := px_vb_ex hp (by omega)
    rw [nI_clamp (show x < 2 ^ 31 by omega)]
    exact (cs_holdI d bv tv ta tb uv ua ub rv ra rb rt se pv pa gv ga ov oa qv qa hv ha nv na yv ya cf cs f hf hf8 x hx hd).mono (fun r W' h => Or.inr ⟨hp, h⟩)
  · exact (cs_holdO d bv tv ta tb uv ua ub rv ra rb rt se pv pa gv ga ov oa qv qa hv ha nv na yv ya cf cs p hp hd).mono (fun r W' h => Or.inl ⟨hp, h⟩)
set_option maxHeartbeats 1000000 in
theorem cs_restoreI (d : Nat) (bv : Nat → Int32) (tv : Nat → Int32) (ta : Nat → Nat → Int32) (tb : Nat → Nat → Int64) (uv : Nat → Int32) (ua : Nat → Nat → Int32) (ub : Nat → Nat → Int64) (rv : Nat → Int32) (ra : Nat → Nat → Int32) (rb : Nat → Nat → Int64) (rt : Value) (se : Nat → Int32) (pv : Nat → Int32) (pa : Nat → Nat → Int32) (gv : Nat → Int32) (ga : Nat → Nat → Int32) (ov : Nat → Int32) (oa : Nat → Nat → Int32) (qv : Nat → Int32) (qa : Nat → Nat → Int32) (hv : Nat → Int32) (ha : Nat → Nat → Int32) (nv : Nat → Int32) (na : Nat → Nat → Int32) (yv : Nat → Int32) (ya : Nat → Nat → Int32) (cf : Nat → Int32) (cs : Nat → Int32) (f : Nat) (hf : bv 12 = nI f) (hf8 : f < 8) (x : Nat) (hx : x < 3) (hd : 2 ≤ d) : Con mX8_restore d [.ref 0, .int (nI x)] (sW bv tv ta tb uv ua ub rv ra rb rt se pv pa gv ga ov oa qv qa hv ha nv na yv ya cf cs) (fun r W' => (¬ f.testBit x = true ∧ W' = (sW bv tv ta tb uv ua ub rv ra rb rt se pv pa gv ga ov oa qv qa hv ha nv na yv ya cf cs) ∧ r = some (.int 0)) ∨ (f.testBit x = true ∧ ∃ nv' na', W' = (sW (va_up bv 10 (nI 0)) tv ta tb uv ua ub rv ra rb rt se pv pa gv ga ov oa qv qa hv ha nv' na' yv ya cf cs) ∧ NEq (shv cs x) (sha cs x) nv' na' ∧ r = some (.int 1))) := by
  have hbt : (nI f >>> (nI x &&& 31)) &&& nI 1 = if f.testBit x = true then 1 else 0 := bit_all ⟨f, by omega⟩ ⟨x, by omega⟩
  refine Con.of (by decide) (Nat.le_of_ble_eq_true rfl) ?_
  refine XG.blk tX8_restore_ok 0 1 (pc' := 1) (pl' := [some (.ref 0), some (.int (nI x))]) (st' := [(.int (nI x))]) (W1 := (sW bv tv ta tb uv ua ub rv ra rb rt se pv pa gv ga ov oa qv qa hv ha nv na yv ya cf cs)) (bs := []) rfl rfl rfl ?_
  refine XG.br eX8_restore_1 (P := (nI x) < 0) (r := []) rfl (tgt := 20) (by decide) (fun h1 => ?_) (fun h1 => ?_)
  · exfalso
    have g1 : x < 0 := (nI_ltI (a := x) (b := 0) (by omega) (by omega)).mp h1
    omega
  · skip
    have g1 : ¬ x < 0 := (fun z_9 => h1 ((nI_ltI (a := x) (b := 0) (by omega) (by omega)).mpr z_9))
    refine XG.blk tX8_restore_ok 2 2 (pc' := 6) (pl' := [some (.ref 0), some (.int (nI x))]) (st' := [(.int (nI 3)), (.int (nI x))]) (W1 := (sW bv tv ta tb uv ua ub rv ra rb rt se pv pa gv ga ov oa qv qa hv ha nv na yv ya cf cs)) (bs := []) rfl rfl rfl ?_
    refine XG.br eX8_restore_6 (P := (nI 3) ≤ (nI x)) (r := []) rfl (tgt := 20) (by decide) (fun h6 => ?_) (fun h6 => ?_)
    · exfalso
      have g6 : 3 ≤ x := (nI_leI (a := 3) (b := x) (by omega) (by omega)).mp h6
      omega
    · skip
      have g6 : ¬ 3 ≤ x := (fun z_9 => h6 ((nI_leI (a := 3) (b := x) (by omega) (by omega)).mpr z_9))
      have q1 : (bv 12) = (nI f) := hf
      have q2 : (((nI f) >>> ((nI x) &&& 31)) &&& (nI 1)) = (if f.testBit x = true then 1 else 0) := hbt
      refine XG.blk tX8_restore_ok 5 6 (pc' := 17) (pl' := [some (.ref 0), some (.int (nI x))]) (st' := [(.int (((bv 12) >>> ((nI x) &&& 31)) &&& (nI 1)))]) (W1 := (sW bv tv ta tb uv ua ub rv ra rb rt se pv pa gv ga ov oa qv qa hv ha nv na yv ya cf cs)) (bs := []) rfl rfl rfl ?_
      simp only [q1, q2]
      refine XG.br eX8_restore_17 (P := ¬ (if f.testBit x = true then 1 else 0) = 0) (r := []) rfl (tgt := 22) (by decide) (fun h17 => ?_) (fun h17 => ?_)
      · skip
        refine XG.blk tX8_restore_ok 14 5 (pc' := 31) (pl' := [some (.ref 0), some (.int (nI x))]) (st' := [(.ref 68), (.int (nI x)), (.ref 80)]) (W1 := (sW bv tv ta tb uv ua ub rv ra rb rt se pv pa gv ga ov oa qv qa hv ha nv na yv ya cf cs)) (bs := []) rfl rfl rfl ?_
        refine XG.callV (ro := [80, 81, 68, 69, 70, 71, 72]) (W1 := (hW 81 cs nv na)) eX8_restore_31 kl_X8_198 (cc_fetch3 (d - 1) cs nv na x hx (by omega)) (px_fitS (by omega)) rfl ⟨rfl, by decide, by decide⟩ rfl rfl (Nat.le_of_ble_eq_true rfl) (fun r9 W9 hp9 hl9 => ?_)
        obtain ⟨nv2, na2, rfl, hE, rfl⟩ := hp9
        rw [pt_shs]
        show XG _ _ _ _ _ _ [] (sW bv tv ta tb uv ua ub rv ra rb rt se pv pa gv ga ov oa qv qa hv ha nv2 na2 yv ya cf cs)
        refine XG.blk tX8_restore_ok 20 4 (pc' := 40) (pl' := [some (.ref 0), some (.int (nI x))]) (st' := [(.int (nI 1))]) (W1 := (sW (va_up bv 10 (nI 0)) tv ta tb uv ua ub rv ra rb rt se pv pa gv ga ov oa qv qa hv ha nv2 na2 yv ya cf cs)) (bs := []) rfl rfl rfl ?_
        refine XS.iret eX8_restore_40 rfl (by decide) ?_
        exact Or.inr ⟨is_ne h17, _, _, rfl, hE, rfl⟩
      · skip
        have h17 := Decidable.not_not.mp h17
        refine XG.blk tX8_restore_ok 12 1 (pc' := 21) (pl' := [some (.ref 0), some (.int (nI x))]) (st' := [(.int (nI 0))]) (W1 := (sW bv tv ta tb uv ua ub rv ra rb rt se pv pa gv ga ov oa qv qa hv ha nv na yv ya cf cs)) (bs := []) rfl rfl rfl ?_
        refine XS.iret eX8_restore_21 rfl (by decide) ?_
        exact Or.inl ⟨one_ne.mp h17, rfl, rfl⟩
set_option maxHeartbeats 1000000 in
theorem cs_restoreO (d : Nat) (bv : Nat → Int32) (tv : Nat → Int32) (ta : Nat → Nat → Int32) (tb : Nat → Nat → Int64) (uv : Nat → Int32) (ua : Nat → Nat → Int32) (ub : Nat → Nat → Int64) (rv : Nat → Int32) (ra : Nat → Nat → Int32) (rb : Nat → Nat → Int64) (rt : Value) (se : Nat → Int32) (pv : Nat → Int32) (pa : Nat → Nat → Int32) (gv : Nat → Int32) (ga : Nat → Nat → Int32) (ov : Nat → Int32) (oa : Nat → Nat → Int32) (qv : Nat → Int32) (qa : Nat → Nat → Int32) (hv : Nat → Int32) (ha : Nat → Nat → Int32) (nv : Nat → Int32) (na : Nat → Nat → Int32) (yv : Nat → Int32) (ya : Nat → Nat → Int32) (cf : Nat → Int32) (cs : Nat → Int32) (p : Int32) (hp : ¬ px_vb p 3 = true) (hd : 2 ≤ d) : Con mX8_restore d [.ref 0, .int p] (sW bv tv ta tb uv ua ub rv ra rb rt se pv pa gv ga ov oa qv qa hv ha nv na yv ya cf cs) (fun r W' => W' = (sW bv tv ta tb uv ua ub rv ra rb rt se pv pa gv ga ov oa qv qa hv ha nv na yv ya cf cs) ∧ r = some (.int 0)) := by
  refine Con.of (by decide) (Nat.le_of_ble_eq_true rfl) ?_
  refine XG.blk tX8_restore_ok 0 1 (pc' := 1) (pl' := [some (.ref 0), some (.int p)]) (st' := [(.int p)]) (W1 := (sW bv tv ta tb uv ua ub rv ra rb rt se pv pa gv ga ov oa qv qa hv ha nv na yv ya cf cs)) (bs := []) rfl rfl rfl ?_
  refine XG.br eX8_restore_1 (P := p < 0) (r := []) rfl (tgt := 20) (by decide) (fun h1 => ?_) (fun h1 => ?_)
  · skip
    refine XG.blk tX8_restore_ok 12 1 (pc' := 21) (pl' := [some (.ref 0), some (.int p)]) (st' := [(.int (nI 0))]) (W1 := (sW bv tv ta tb uv ua ub rv ra rb rt se pv pa gv ga ov oa qv qa hv ha nv na yv ya cf cs)) (bs := []) rfl rfl rfl ?_
    refine XS.iret eX8_restore_21 rfl (by decide) ?_
    exact ⟨rfl, rfl⟩
  · skip
    refine XG.blk tX8_restore_ok 2 2 (pc' := 6) (pl' := [some (.ref 0), some (.int p)]) (st' := [(.int (nI 3)), (.int p)]) (W1 := (sW bv tv ta tb uv ua ub rv ra rb rt se pv pa gv ga ov oa qv qa hv ha nv na yv ya cf cs)) (bs := []) rfl rfl rfl ?_
    refine XG.br eX8_restore_6 (P := (nI 3) ≤ p) (r := []) rfl (tgt := 20) (by decide) (fun h6 => ?_) (fun h6 => ?_)
    · skip
      refine XG.blk tX8_restore_ok 12 1 (pc' := 21) (pl' := [some (.ref 0), some (.int p)]) (st' := [(.int (nI 0))]) (W1 := (sW bv tv ta tb uv ua ub rv ra rb rt se pv pa gv ga ov oa qv qa hv ha nv na yv ya cf cs)) (bs := []) rfl rfl rfl ?_
      refine XS.iret eX8_restore_21 rfl (by decide) ?_
      exact ⟨rfl, rfl⟩
    · exfalso
      exact hp (vb_3 h1 (Int32.not_le.mp h6))
theorem cs_restore (d : Nat) (bv : Nat → Int32) (tv : Nat → Int32) (ta : Nat → Nat → Int32) (tb : Nat → Nat → Int64) (uv : Nat → Int32) (ua : Nat → Nat → Int32) (ub : Nat → Nat → Int64) (rv : Nat → Int32) (ra : Nat → Nat → Int32) (rb : Nat → Nat → Int64) (rt : Value) (se : Nat → Int32) (pv : Nat → Int32) (pa : Nat → Nat → Int32) (gv : Nat → Int32) (ga : Nat → Nat → Int32) (ov : Nat → Int32) (oa : Nat → Nat → Int32) (qv : Nat → Int32) (qa : Nat → Nat → Int32) (hv : Nat → Int32) (ha : Nat → Nat → Int32) (nv : Nat → Int32) (na : Nat → Nat → Int32) (yv : Nat → Int32) (ya : Nat → Nat → Int32) (cf : Nat → Int32) (cs : Nat → Int32) (f : Nat) (hf : bv 12 = nI f) (hf8 : f < 8) (p : Int32) (hd : 2 ≤ d) : Con mX8_restore d [.ref 0, .int p] (sW bv tv ta tb uv ua ub rv ra rb rt se pv pa gv ga ov oa qv qa hv ha nv na yv ya cf cs) (fun r W' => (¬ (px_vb p 3 = true ∧ f.testBit p.toNatClampNeg = true) ∧ W' = (sW bv tv ta tb uv ua ub rv ra rb rt se pv pa gv ga ov oa qv qa hv ha nv na yv ya cf cs) ∧ r = some (.int 0)) ∨ ((px_vb p 3 = true ∧ f.testBit p.toNatClampNeg = true) ∧ ∃ nv' na', W' = (sW (va_up bv 10 (nI 0)) tv ta tb uv ua ub rv ra rb rt se pv pa gv ga ov oa qv qa hv ha nv' na' yv ya cf cs) ∧ NEq (shv cs p.toNatClampNeg) (sha cs p.toNatClampNeg) nv' na' ∧ r = some (.int 1))) := by
  by_cases hp : px_vb p 3 = true
  · obtain ⟨x, hx, rfl⟩ := px_vb_ex hp (by omega)
    rw [nI_clamp (show x < 2 ^ 31 by omega)]
    refine (cs_restoreI d bv tv ta tb uv ua ub rv ra rb rt se pv pa gv ga ov oa qv qa hv ha nv na yv ya cf cs f hf hf8 x hx hd).mono (fun r W' h => ?_)
    rcases h with ⟨h1, h2⟩ | ⟨h1, h2⟩
    · exact Or.inl ⟨fun w => h1 w.2, h2⟩
    · exact Or.inr ⟨⟨hp, h1⟩, h2⟩
  · exact (cs_restoreO d bv tv ta tb uv ua ub rv ra rb rt se pv pa gv ga ov oa qv qa hv ha nv na yv ya cf cs p hp hd).mono (fun r W' h => Or.inl ⟨fun w => hp w.1, h⟩)
