/-! THE CLASS ITSELF: year, weakest, order -/
theorem ne_m1 {x : Nat} (h : x < 2 ^ 31) : ¬ nI x = -1 := fun w => nI_nn h (by rw [w]; decide)
theorem nn_m1 {x : Nat} (h : x < 2 ^ 31) : ¬ nI x < -1 := fun w => nI_nn h (Int32.lt_trans w (by decide))
theorem m1_lt {x : Nat} (h : x < 2 ^ 31) : (-1 : Int32) < nI x := Int32.lt_of_lt_of_le (by decide) (Int32.not_lt.mp (nI_nn h))
theorem sub1_toInt {n : Nat} (h : n < 2 ^ 31) : (nI n - nI 1).toInt = (n : Int) - 1 := by
  cases n with
  | zero => decide
  | succ m =>
    rw [show nI (m + 1) - nI 1 = nI (m + 1 - 1) from px_esub rfl rfl (by omega), nI_toInt (by omega)]
    omega
theorem lt_sub1 {p : Int32} {n : Nat} (hn : n < 2 ^ 31) (h : p < nI n) : p ≤ nI n - nI 1 := by
  refine Int32.le_iff_toInt_le.mpr ?_
  have h1 := Int32.lt_iff_toInt_lt.mp h
  rw [nI_toInt hn] at h1
  rw [sub1_toInt hn]; omega
theorem okI_x {hm : Nat} (h5 : hm ≤ 5) {p : Int32} (h : okI hm p) (hn : ¬ p = -1) : ∃ x, x < hm ∧ p = nI x := by
  have h1 := Int32.le_iff_toInt_le.mp h.1
  have h2 := Int32.le_iff_toInt_le.mp h.2
  rw [sub1_toInt (by omega)] at h2
  rw [show (-1 : Int32).toInt = -1 from rfl] at h1
  have h3 : p.toInt ≠ -1 := fun w => hn (Int32.toInt_inj.mp (w.trans rfl))
  exact px_vb_ex (px_vb_iff.mpr ⟨by omega, by omega⟩) (by omega)
theorem CX.tl {S : SD} {lv : Nat} {a : Nat → Nat → Int32} {tv : Nat → Int32} {ta : Nat → Nat → Int32} (h : CX S lv (aQ a) tv ta) : ∀ c, c < S.1 31 → ∃ t, t ≤ 99 ∧ a 34 (5 * lv + c) = nI t := fun c hc => ⟨S.2.1 34 c, (h.2.2.1.2.2.2.2.2.1 c hc).2.2, h.1.2.2.1 c hc 34 (by decide)⟩
theorem wk_nn (x : Int32) (a : Nat → Nat → Int32) (lv : Nat) {sp sl : Nat} (cr : Nat) (h1 : 1 ≤ sp) (h6 : sl ≤ 6) : ¬ (wkR x a lv sp sl cr).2 < 0 := by
  have hp := p5_le (k := sl) (by omega)
  obtain ⟨w, hw, e⟩ := wk_ex x a lv sp sl cr h1 (5 ^ sl - 1)
  rw [show 5 ^ sl - 1 + 1 = 5 ^ sl by omega] at e
  unfold wkR
  rw [e]
  exact nI_nn (by omega)
theorem home_pc (row : Nat → Int32) {n : Nat} (h : n ≤ 6) : pcN (mkN (fun k => decide (row (18 + k) = -2)) n) 6 = (hmL row n).length := by
  rw [pc_mk _ h, ← cB_home]
  refine congrArg (fun P => cB P n) ?_
  funext c
  unfold lfB
  rw [show usd 0 0 (jx row c) = false from rfl]
  simp
set_option maxHeartbeats 1000000 in
theorem cs_yearI (d : Nat) (bv : Nat → Int32) (tv : Nat → Int32) (ta : Nat → Nat → Int32) (tb : Nat → Nat → Int64) (uv : Nat → Int32) (ua : Nat → Nat → Int32) (ub : Nat → Nat → Int64) (rv : Nat → Int32) (ra : Nat → Nat → Int32) (rb : Nat → Nat → Int64) (rt : Value) (se : Nat → Int32) (pv : Nat → Int32) (pa : Nat → Nat → Int32) (gv : Nat → Int32) (ga : Nat → Nat → Int32) (ov : Nat → Int32) (oa : Nat → Nat → Int32) (qv : Nat → Int32) (qa : Nat → Nat → Int32) (hv : Nat → Int32) (ha : Nat → Nat → Int32) (nv : Nat → Int32) (na : Nat → Nat → Int32) (yv : Nat → Int32) (ya : Nat → Nat → Int32) (cf : Nat → Int32) (cs : Nat → Int32) (S : SD) (lv : Nat) (v : Nat → Int32) (a : Nat → Nat → Int32) (hX : CX S lv (aQ a) tv ta) (hN : CNt S (a 54) nv na) (H : Nat) (hGR : GR S H (a 54)) (hH : H ≤ 50000) (x m k : Nat) (hx : x < S.1 31) (hm : m < 100) (hk1 : 1 ≤ k) (hk : k ≤ 20) (hd : 8 ≤ d) : Con mX8_year d [.ref 0, .int (nI x), .int (nI m), .int (nI k)] (sW bv tv ta tb uv ua ub rv ra rb rt se pv pa gv ga ov oa qv qa hv ha nv na yv ya cf cs) (fun r W' => ∃ pv' pa' gv' ga' ov' oa' se' ta', W' = (sW bv tv ta' tb uv ua ub rv ra rb rt se' pv' pa' gv' ga' ov' oa' qv qa hv ha nv na yv ya cf cs) ∧ chg [22] ta ta' ∧ r = some (.int (itN (yrF v a lv (S.1 23) (S.1 24) (S.1 31) x m) (nI 0) k))) := by
  obtain ⟨hsp, hsp1, hsp2⟩ := hX.sp
  obtain ⟨hsl, hsl2⟩ := hX.sl
  obtain ⟨hcr, hcr2⟩ := hX.cr
  have hin : 0 ≤ nI x ∧ nI x < tv 3 := by rw [hcr]; exact in_S hx (by omega)
  refine Con.of (by decide) (Nat.le_of_ble_eq_true rfl) ?_
  refine XG.blk tX8_year_ok 0 2 (pc' := 2) (pl' := [some (.ref 0), some (.int (nI x)), some (.int (nI m)), some (.int (nI k))]) (st' := [(.int (nI x)), (.ref 0)]) (W1 := (sW bv tv ta tb uv ua ub rv ra rb rt se pv pa gv ga ov oa qv qa hv ha nv na yv ya cf cs)) (bs := []) rfl rfl rfl ?_
  refine XG.callV0 eX8_year_2 kl_X8_118 (cs_isCrosser (d - 1) bv tv ta tb uv ua ub rv ra rb rt se pv pa gv ga ov oa qv qa hv ha nv na yv ya cf cs (nI x)) (px_fitS (by omega)) rfl rfl rfl (Nat.le_of_ble_eq_true rfl) (fun r9 W9 hp9 hl9 => ?_)
  obtain ⟨rfl, rfl⟩ := hp9
  refine XG.br eX8_year_5 (P := (if 0 ≤ (nI x) ∧ (nI x) < tv 3 then 1 else 0) = 0) (r := []) rfl (tgt := 29) (by decide) (fun h5 => ?_) (fun h5 => ?_)
  · exfalso
    exact absurd h5 (by rw [if_pos hin]; decide)
  · skip
    refine XG.blk tX8_year_ok 4 1 (pc' := 9) (pl' := [some (.ref 0), some (.int (nI x)), some (.int (nI m)), some (.int (nI k))]) (st' := [(.int (nI m))]) (W1 := (sW bv tv ta tb uv ua ub rv ra rb rt se pv pa gv ga ov oa qv qa hv ha nv na yv ya cf cs)) (bs := []) rfl rfl rfl ?_
    refine XG.br eX8_year_9 (P := (nI m) < 0) (r := []) rfl (tgt := 29) (by decide) (fun h9 => ?_) (fun h9 => ?_)
    · exfalso
      have g9 : m < 0 := (nI_ltI (a := m) (b := 0) (by omega) (by omega)).mp h9
      omega
    · skip
      have g9 : ¬ m < 0 := (fun z_9 => h9 ((nI_ltI (a := m) (b := 0) (by omega) (by omega)).mpr z_9))
      refine XG.blk tX8_year_ok 6 2 (pc' := 15) (pl' := [some (.ref 0), some (.int (nI x)), some (.int (nI m)), some (.int (nI k))]) (st' := [(.int (nI 99)), (.int (nI m))]) (W1 := (sW bv tv ta tb uv ua ub rv ra rb rt se pv pa gv ga ov oa qv qa hv ha nv na yv ya cf cs)) (bs := []) rfl rfl rfl ?_
      refine XG.br eX8_year_15 (P := (nI 99) < (nI m)) (r := []) rfl (tgt := 29) (by decide) (fun h15 => ?_) (fun h15 => ?_)
      · exfalso
        have g15 : 99 < m := (nI_ltI (a := 99) (b := m) (by omega) (by omega)).mp h15
        omega
      · skip
        have g15 : ¬ 99 < m := (fun z_9 => h15 ((nI_ltI (a := 99) (b := m) (by omega) (by omega)).mpr z_9))
        refine XG.blk tX8_year_ok 9 2 (pc' := 20) (pl' := [some (.ref 0), some (.int (nI x)), some (.int (nI m)), some (.int (nI k))]) (st' := [(.int (nI 1)), (.int (nI k))]) (W1 := (sW bv tv ta tb uv ua ub rv ra rb rt se pv pa gv ga ov oa qv qa hv ha nv na yv ya cf cs)) (bs := []) rfl rfl rfl ?_
        refine XG.br eX8_year_20 (P := (nI k) < (nI 1)) (r := []) rfl (tgt := 29) (by decide) (fun h20 => ?_) (fun h20 => ?_)
        · exfalso
          have g20 : k < 1 := (nI_ltI (a := k) (b := 1) (by omega) (by omega)).mp h20
          omega
        · skip
          have g20 : ¬ k < 1 := (fun z_9 => h20 ((nI_ltI (a := k) (b := 1) (by omega) (by omega)).mpr z_9))
          refine XG.blk tX8_year_ok 12 2 (pc' := 26) (pl' := [some (.ref 0), some (.int (nI x)), some (.int (nI m)), some (.int (nI k))]) (st' := [(.int (nI 20)), (.int (nI k))]) (W1 := (sW bv tv ta tb uv ua ub rv ra rb rt se pv pa gv ga ov oa qv qa hv ha nv na yv ya cf cs)) (bs := []) rfl rfl rfl ?_
          refine XG.br eX8_year_26 (P := (nI k) ≤ (nI 20)) (r := []) rfl (tgt := 31) (by decide) (fun h26 => ?_) (fun h26 => ?_)
          · skip
            have g26 : k ≤ 20 := (nI_leI (a := k) (b := 20) (by omega) (by omega)).mp h26
            refine XG.blk tX8_year_ok 17 7 (pc' := 42) (pl' := [some (.ref 0), some (.int (nI x)), some (.int (nI m)), some (.int (nI k))]) (st' := [(.int (nI k)), (.int (nI m)), (.int (nI x)), (.ref 68), (.ref 39)]) (W1 := (sW bv tv ta tb uv ua ub rv ra rb rt se pv pa gv ga ov oa qv qa hv ha nv na yv ya cf cs)) (bs := []) rfl rfl rfl ?_
            refine XG.callV (ro := [39, 40, 41, 42, 43, 44, 45, 46, 47, 48, 49, 50, 51, 52, 53, 54, 55, 56, 57, 37, 38, 1, 2, 3, 4, 5, 6, 7, 8, 9, 10, 11, 12, 13, 14, 15, 68, 69, 70, 71, 72]) (W1 := (pW pv pa gv ga ov oa se tv ta tb nv na)) eX8_year_42 kl_X8_259 (cc_seedsOver (d - 1) pv pa gv ga ov oa se tv ta tb nv na S lv v a hX hN x m k hx (by omega) (by omega) H hGR hH (by omega)) (px_fitS (by omega)) rfl ⟨rfl, by decide, by decide⟩ rfl rfl (Nat.le_of_ble_eq_true rfl) (fun r9 W9 hp9 hl9 => ?_)
            obtain ⟨pv1, pa1, gv1, ga1, ov1, oa1, se1, sk1, rfl, rfl⟩ := hp9
            rw [pt_sp]
            show XG _ _ _ _ _ _ [(.int (itN (yrF v a lv (S.1 23) (S.1 24) (S.1 31) x m) (nI 0) k))] (sW bv tv (va_up ta 22 sk1) tb uv ua ub rv ra rb rt se1 pv1 pa1 gv1 ga1 ov1 oa1 qv qa hv ha nv na yv ya cf cs)
            refine XS.iret eX8_year_45 rfl rfl ?_
            exact ⟨_, _, _, _, _, _, _, _, rfl, (chg.up (by decide)), rfl⟩
          · exfalso
            have g26 : ¬ k ≤ 20 := (fun z_9 => h26 ((nI_leI (a := k) (b := 20) (by omega) (by omega)).mpr z_9))
            omega
set_option maxHeartbeats 1000000 in
theorem cs_yearO (d : Nat) (bv : Nat → Int32) (tv : Nat → Int32) (ta : Nat → Nat → Int32) (tb : Nat → Nat → Int64) (uv : Nat → Int32) (ua : Nat → Nat → Int32) (ub : Nat → Nat → Int64) (rv : Nat → Int32) (ra : Nat → Nat → Int32) (rb : Nat → Nat → Int64) (rt : Value) (se : Nat → Int32) (pv : Nat → Int32) (pa : Nat → Nat → Int32) (gv : Nat → Int32) (ga : Nat → Nat → Int32) (ov : Nat → Int32) (oa : Nat → Nat → Int32) (qv : Nat → Int32) (qa : Nat → Nat → Int32) (hv : Nat → Int32) (ha : Nat → Nat → Int32) (nv : Nat → Int32) (na : Nat → Nat → Int32) (yv : Nat → Int32) (ya : Nat → Nat → Int32) (cf : Nat → Int32) (cs : Nat → Int32) (S : SD) (lv : Nat) (v : Nat → Int32) (a : Nat → Nat → Int32) (hX : CX S lv (aQ a) tv ta) (hN : CNt S (a 54) nv na) (p n s : Int32) (hno : ¬ okYr (S.1 31) p n s) (hd : 8 ≤ d) : Con mX8_year d [.ref 0, .int p, .int n, .int s] (sW bv tv ta tb uv ua ub rv ra rb rt se pv pa gv ga ov oa qv qa hv ha nv na yv ya cf cs) (fun r W' => ∃ pv' pa' gv' ga' ov' oa' se' ta', W' = (sW bv tv ta' tb uv ua ub rv ra rb rt se' pv' pa' gv' ga' ov' oa' qv qa hv ha nv na yv ya cf cs) ∧ chg [22] ta ta' ∧ r = some (.int (-1))) := by
  obtain ⟨hsp, hsp1, hsp2⟩ := hX.sp
  obtain ⟨hsl, hsl2⟩ := hX.sl
  obtain ⟨hcr, hcr2⟩ := hX.cr
  refine Con.of (by decide) (Nat.le_of_ble_eq_true rfl) ?_
  refine XG.blk tX8_year_ok 0 2 (pc' := 2) (pl' := [some (.ref 0), some (.int p), some (.int n), some (.int s)]) (st' := [(.int p), (.ref 0)]) (W1 := (sW bv tv ta tb uv ua ub rv ra rb rt se pv pa gv ga ov oa qv qa hv ha nv na yv ya cf cs)) (bs := []) rfl rfl rfl ?_
  refine XG.callV0 eX8_year_2 kl_X8_118 (cs_isCrosser (d - 1) bv tv ta tb uv ua ub rv ra rb rt se pv pa gv ga ov oa qv qa hv ha nv na yv ya cf cs p) (px_fitS (by omega)) rfl rfl rfl (Nat.le_of_ble_eq_true rfl) (fun r9 W9 hp9 hl9 => ?_)
  obtain ⟨rfl, rfl⟩ := hp9
  refine XG.br eX8_year_5 (P := (if 0 ≤ p ∧ p < tv 3 then 1 else 0) = 0) (r := []) rfl (tgt := 29) (by decide) (fun h5 => ?_) (fun h5 => ?_)
  · skip
    refine XG.blk tX8_year_ok 15 1 (pc' := 30) (pl' := [some (.ref 0), some (.int p), some (.int n), some (.int s)]) (st' := [(.int (-1))]) (W1 := (sW bv tv ta tb uv ua ub rv ra rb rt se pv pa gv ga ov oa qv qa hv ha nv na yv ya cf cs)) (bs := []) rfl rfl rfl ?_
    refine XS.iret eX8_year_30 rfl rfl ?_
    exact ⟨_, _, _, _, _, _, _, _, rfl, chg.rf, rfl⟩
  · skip
    refine XG.blk tX8_year_ok 4 1 (pc' := 9) (pl' := [some (.ref 0), some (.int p), some (.int n), some (.int s)]) (st' := [(.int n)]) (W1 := (sW bv tv ta tb uv ua ub rv ra rb rt se pv pa gv ga ov oa qv qa hv ha nv na yv ya cf cs)) (bs := []) rfl rfl rfl ?_
    refine XG.br eX8_year_9 (P := n < 0) (r := []) rfl (tgt := 29) (by decide) (fun h9 => ?_) (fun h9 => ?_)
    · skip
      refine XG.blk tX8_year_ok 15 1 (pc' := 30) (pl' := [some (.ref 0), some (.int p), some (.int n), some (.int s)]) (st' := [(.int (-1))]) (W1 := (sW bv tv ta tb uv ua ub rv ra rb rt se pv pa gv ga ov oa qv qa hv ha nv na yv ya cf cs)) (bs := []) rfl rfl rfl ?_
      refine XS.iret eX8_year_30 rfl rfl ?_
      exact ⟨_, _, _, _, _, _, _, _, rfl, chg.rf, rfl⟩
    · skip
      refine XG.blk tX8_year_ok 6 2 (pc' := 15) (pl' := [some (.ref 0), some (.int p), some (.int n), some (.int s)]) (st' := [(.int (nI 99)), (.int n)]) (W1 := (sW bv tv ta tb uv ua ub rv ra rb rt se pv pa gv ga ov oa qv qa hv ha nv na yv ya cf cs)) (bs := []) rfl rfl rfl ?_
      refine XG.br eX8_year_15 (P := (nI 99) < n) (r := []) rfl (tgt := 29) (by decide) (fun h15 => ?_) (fun h15 => ?_)
      · skip
        refine XG.blk tX8_year_ok 15 1 (pc' := 30) (pl' := [some (.ref 0), some (.int p), some (.int n), some (.int s)]) (st' := [(.int (-1))]) (W1 := (sW bv tv ta tb uv ua ub rv ra rb rt se pv pa gv ga ov oa qv qa hv ha nv na yv ya cf cs)) (bs := []) rfl rfl rfl ?_
        refine XS.iret eX8_year_30 rfl rfl ?_
        exact ⟨_, _, _, _, _, _, _, _, rfl, chg.rf, rfl⟩
      · skip
        refine XG.blk tX8_year_ok 9 2 (pc' := 20) (pl' := [some (.ref 0), some (.int p), some (.int n), some (.int s)]) (st' := [(.int (nI 1)), (.int s)]) (W1 := (sW bv tv ta tb uv ua ub rv ra rb rt se pv pa gv ga ov oa qv qa hv ha nv na yv ya cf cs)) (bs := []) rfl rfl rfl ?_
        refine XG.br eX8_year_20 (P := s < (nI 1)) (r := []) rfl (tgt := 29) (by decide) (fun h20 => ?_) (fun h20 => ?_)
        · skip
          refine XG.blk tX8_year_ok 15 1 (pc' := 30) (pl' := [some (.ref 0), some (.int p), some (.int n), some (.int s)]) (st' := [(.int (-1))]) (W1 := (sW bv tv ta tb uv ua ub rv ra rb rt se pv pa gv ga ov oa qv qa hv ha nv na yv ya cf cs)) (bs := []) rfl rfl rfl ?_
          refine XS.iret eX8_year_30 rfl rfl ?_
          exact ⟨_, _, _, _, _, _, _, _, rfl, chg.rf, rfl⟩
        · skip
          refine XG.blk tX8_year_ok 12 2 (pc' := 26) (pl' := [some (.ref 0), some (.int p), some (.int n), some (.int s)]) (st' := [(.int (nI 20)), (.int s)]) (W1 := (sW bv tv ta tb uv ua ub rv ra rb rt se pv pa gv ga ov oa qv qa hv ha nv na yv ya cf cs)) (bs := []) rfl rfl rfl ?_
          refine XG.br eX8_year_26 (P := s ≤ (nI 20)) (r := []) rfl (tgt := 31) (by decide) (fun h26 => ?_) (fun h26 => ?_)
          · exfalso
            exact hno ⟨(hX.isC p).mp (is_ne h5), vb_n (m := 99) (Nat.le_of_ble_eq_true rfl) h9 h15, ⟨Int32.not_lt.mp h20, h26⟩⟩
          · skip
            refine XG.blk tX8_year_ok 15 1 (pc' := 30) (pl' := [some (.ref 0), some (.int p), some (.int n), some (.int s)]) (st' := [(.int (-1))]) (W1 := (sW bv tv ta tb uv ua ub rv ra rb rt se pv pa gv ga ov oa qv qa hv ha nv na yv ya cf cs)) (bs := []) rfl rfl rfl ?_
            refine XS.iret eX8_year_30 rfl rfl ?_
            exact ⟨_, _, _, _, _, _, _, _, rfl, chg.rf, rfl⟩
theorem in_nat {s : Int32} {lo hi : Nat} (hh : hi + 1 < 2 ^ 31) (hl : lo ≤ hi) (h : nI lo ≤ s ∧ s ≤ nI hi) : ∃ k, lo ≤ k ∧ k ≤ hi ∧ s = nI k := by
  have h1 := Int32.le_iff_toInt_le.mp h.1
  have h2 := Int32.le_iff_toInt_le.mp h.2
  rw [nI_toInt (by omega)] at h1
  rw [nI_toInt (by omega)] at h2
  obtain ⟨k, hk, e⟩ := px_vb_ex (px_vb_iff.mpr ⟨by omega, by omega⟩ : px_vb s (hi + 1) = true) (by omega)
  rw [e, nI_toInt (by omega)] at h1
  exact ⟨k, by omega, by omega, e⟩
theorem cs_year (d : Nat) (bv : Nat → Int32) (tv : Nat → Int32) (ta : Nat → Nat → Int32) (tb : Nat → Nat → Int64) (uv : Nat → Int32) (ua : Nat → Nat → Int32) (ub : Nat → Nat → Int64) (rv : Nat → Int32) (ra : Nat → Nat → Int32) (rb : Nat → Nat → Int64) (rt : Value) (se : Nat → Int32) (pv : Nat → Int32) (pa : Nat → Nat → Int32) (gv : Nat → Int32) (ga : Nat → Nat → Int32) (ov : Nat → Int32) (oa : Nat → Nat → Int32) (qv : Nat → Int32) (qa : Nat → Nat → Int32) (hv : Nat → Int32) (ha : Nat → Nat → Int32) (nv : Nat → Int32) (na : Nat → Nat → Int32) (yv : Nat → Int32) (ya : Nat → Nat → Int32) (cf : Nat → Int32) (cs : Nat → Int32) (S : SD) (lv : Nat) (v : Nat → Int32) (a : Nat → Nat → Int32) (hX : CX S lv (aQ a) tv ta) (hN : CNt S (a 54) nv na) (H : Nat) (hGR : GR S H (a 54)) (hH : H ≤ 50000) (p n s : Int32) (hd : 8 ≤ d) : Con mX8_year d [.ref 0, .int p, .int n, .int s] (sW bv tv ta tb uv ua ub rv ra rb rt se pv pa gv ga ov oa qv qa hv ha nv na yv ya cf cs) (fun r W' => ∃ pv' pa' gv' ga' ov' oa' se' ta', W' = (sW bv tv ta' tb uv ua ub rv ra rb rt se' pv' pa' gv' ga' ov' oa' qv qa hv ha nv na yv ya cf cs) ∧ chg [22] ta ta' ∧ r = some (.int (if okYr (S.1 31) p n s then itN (yrF v a lv (S.1 23) (S.1 24) (S.1 31) p.toNatClampNeg n.toNatClampNeg) (nI 0) s.toNatClampNeg else -1))) := by
  obtain ⟨hsp, hsp1, hsp2⟩ := hX.sp
  obtain ⟨hsl, hsl2⟩ := hX.sl
  obtain ⟨hcr, hcr2⟩ := hX.cr
  by_cases hok : okYr (S.1 31) p n s
  · rw [if_pos hok]
    obtain ⟨h1, h2, h3⟩ := hok
    obtain ⟨x, hx, rfl⟩ := px_vb_ex h1 (by omega)
    obtain ⟨m, hm, rfl⟩ := px_vb_ex h2 (by omega)
    obtain ⟨k, hk1, hk, rfl⟩ := in_nat (by omega) (by omega) h3
    rw [nI_clamp (show x < 2 ^ 31 by omega), nI_clamp (show m < 2 ^ 31 by omega), nI_clamp (show k < 2 ^ 31 by omega)]
    exact cs_yearI d bv tv ta tb uv ua ub rv ra rb rt se pv pa gv ga ov oa qv qa hv ha nv na yv ya cf cs S lv v a hX hN H hGR hH x m k hx hm hk1 hk hd
  · rw [if_neg hok]
    exact cs_yearO d bv tv ta tb uv ua ub rv ra rb rt se pv pa gv ga ov oa qv qa hv ha nv na yv ya cf cs S lv v a hX hN p n s hok hd
set_option maxHeartbeats 1000000 in
theorem cs_weakN (d : Nat) (bv : Nat → Int32) (tv : Nat → Int32) (ta : Nat → Nat → Int32) (tb : Nat → Nat → Int64) (uv : Nat → Int32) (ua : Nat → Nat → Int32) (ub : Nat → Nat → Int64) (rv : Nat → Int32) (ra : Nat → Nat → Int32) (rb : Nat → Nat → Int64) (rt : Value) (se : Nat → Int32) (pv : Nat → Int32) (pa : Nat → Nat → Int32) (gv : Nat → Int32) (ga : Nat → Nat → Int32) (ov : Nat → Int32) (oa : Nat → Nat → Int32) (qv : Nat → Int32) (qa : Nat → Nat → Int32) (hv : Nat → Int32) (ha : Nat → Nat → Int32) (nv : Nat → Int32) (na : Nat → Nat → Int32) (yv : Nat → Int32) (ya : Nat → Nat → Int32) (cf : Nat → Int32) (cs : Nat → Int32) (S : SD) (lv : Nat) (v : Nat → Int32) (a : Nat → Nat → Int32) (hX : CX S lv (aQ a) tv ta) (hN : CNt S (a 54) nv na) (hd : 10 ≤ d) : Con mX8_weakest d [.ref 0, .int (-1)] (sW bv tv ta tb uv ua ub rv ra rb rt se pv pa gv ga ov oa qv qa hv ha nv na yv ya cf cs) (fun r W' => ∃ pv' pa' gv' ga' ov' oa' se' ta', W' = (sW bv tv ta' tb uv ua ub rv ra rb rt se' pv' pa' gv' ga' ov' oa' qv qa hv ha nv na yv ya cf cs) ∧ chg [22] ta ta' ∧ r = some (.int (qWeak (v 63) a lv (S.1 23) (S.1 24) (S.1 31) (-1)))) := by
  obtain ⟨hsp, hsp1, hsp2⟩ := hX.sp
  obtain ⟨hsl, hsl2⟩ := hX.sl
  obtain ⟨hcr, hcr2⟩ := hX.cr
  refine Con.of (by decide) (Nat.le_of_ble_eq_true rfl) ?_
  refine XG.blk tX8_weakest_ok 0 2 (pc' := 2) (pl' := [some (.ref 0), some (.int (-1)), none]) (st' := [(.int (-1)), (.int (-1))]) (W1 := (sW bv tv ta tb uv ua ub rv ra rb rt se pv pa gv ga ov oa qv qa hv ha nv na yv ya cf cs)) (bs := []) rfl rfl rfl ?_
  refine XG.br eX8_weakest_2 (P := (-1) = (-1)) (r := []) rfl (tgt := 15) (by decide) (fun h2 => ?_) (fun h2 => ?_)
  · skip
    refine XG.blk tX8_weakest_ok 9 4 (pc' := 23) (pl' := [some (.ref 0), some (.int (-1)), none]) (st' := [(.ref 68), (.ref 39)]) (W1 := (sW bv tv ta tb uv ua ub rv ra rb rt se pv pa gv ga ov oa qv qa hv ha nv na yv ya cf cs)) (bs := []) rfl rfl rfl ?_
    refine XG.callV (ro := [39, 40, 41, 42, 43, 44, 45, 46, 47, 48, 49, 50, 51, 52, 53, 54, 55, 56, 57, 37, 38, 1, 2, 3, 4, 5, 6, 7, 8, 9, 10, 11, 12, 13, 14, 15, 68, 69, 70, 71, 72]) (W1 := (pW pv pa gv ga ov oa se tv ta tb nv na)) eX8_weakest_23 kl_X8_218 (cc_findRows (d - 1) pv pa gv ga ov oa se tv ta tb nv na S lv v a hX hN (v 63) (by omega)) (px_fitS (by omega)) rfl ⟨rfl, by decide, by decide⟩ rfl rfl (Nat.le_of_ble_eq_true rfl) (fun r9 W9 hp9 hl9 => ?_)
    obtain ⟨pv1, pa1, gv1, ga1, ov1, oa1, se1, sk1, rfl, hM, rfl⟩ := hp9
    rw [pt_sp]
    show XG _ _ _ _ _ _ [(.int (pv1 0))] (sW bv tv (va_up ta 22 sk1) tb uv ua ub rv ra rb rt se1 pv1 pa1 gv1 ga1 ov1 oa1 qv qa hv ha nv na yv ya cf cs)
    refine XG.blk tX8_weakest_ok 14 3 (pc' := 29) (pl' := [some (.ref 0), some (.int (-1)), some (.int (pv1 0))]) (st' := [(.int (-1)), (.int (-1))]) (W1 := (sW bv tv (va_up ta 22 sk1) tb uv ua ub rv ra rb rt se1 pv1 pa1 gv1 ga1 ov1 oa1 qv qa hv ha nv na yv ya cf cs)) (bs := []) rfl rfl rfl ?_
    refine XG.br eX8_weakest_29 (P := ¬ (-1) = (-1)) (r := []) rfl (tgt := 36) (by decide) (fun h29 => ?_) (fun h29 => ?_)
    · exfalso
      first | exact absurd rfl h2 | exact h29 rfl
    · skip
      have h29 := Decidable.not_not.mp h29
      refine XG.blk tX8_weakest_ok 18 1 (pc' := 33) (pl' := [some (.ref 0), some (.int (-1)), some (.int (pv1 0))]) (st' := [(.int (pv1 0))]) (W1 := (sW bv tv (va_up ta 22 sk1) tb uv ua ub rv ra rb rt se1 pv1 pa1 gv1 ga1 ov1 oa1 qv qa hv ha nv na yv ya cf cs)) (bs := []) rfl rfl rfl ?_
      refine XG.goto eX8_weakest_33 (tgt := 45) (by decide) ?_
      refine XS.iret eX8_weakest_45 rfl rfl ?_
      refine ⟨_, _, _, _, _, _, _, _, rfl, (chg.up (by decide)), ?_⟩
      unfold qWeak
      rw [if_pos rfl, (hM.2 (wk_nn (v 63) a lv (S.1 31) hsp1 hsl2)).1]
      rfl
  · exfalso
    first | exact absurd rfl h2 | exact h29 rfl
set_option maxHeartbeats 1000000 in
theorem cs_weakI (d : Nat) (bv : Nat → Int32) (tv : Nat → Int32) (ta : Nat → Nat → Int32) (tb : Nat → Nat → Int64) (uv : Nat → Int32) (ua : Nat → Nat → Int32) (ub : Nat → Nat → Int64) (rv : Nat → Int32) (ra : Nat → Nat → Int32) (rb : Nat → Nat → Int64) (rt : Value) (se : Nat → Int32) (pv : Nat → Int32) (pa : Nat → Nat → Int32) (gv : Nat → Int32) (ga : Nat → Nat → Int32) (ov : Nat → Int32) (oa : Nat → Nat → Int32) (qv : Nat → Int32) (qa : Nat → Nat → Int32) (hv : Nat → Int32) (ha : Nat → Nat → Int32) (nv : Nat → Int32) (na : Nat → Nat → Int32) (yv : Nat → Int32) (ya : Nat → Nat → Int32) (cf : Nat → Int32) (cs : Nat → Int32) (S : SD) (lv : Nat) (v : Nat → Int32) (a : Nat → Nat → Int32) (hX : CX S lv (aQ a) tv ta) (hN : CNt S (a 54) nv na) (x : Nat) (hx : x < S.1 24) (hd : 10 ≤ d) : Con mX8_weakest d [.ref 0, .int (nI x)] (sW bv tv ta tb uv ua ub rv ra rb rt se pv pa gv ga ov oa qv qa hv ha nv na yv ya cf cs) (fun r W' => ∃ pv' pa' gv' ga' ov' oa' se' ta', W' = (sW bv tv ta' tb uv ua ub rv ra rb rt se' pv' pa' gv' ga' ov' oa' qv qa hv ha nv na yv ya cf cs) ∧ chg [22] ta ta' ∧ r = some (.int (qWeak (v 63) a lv (S.1 23) (S.1 24) (S.1 31) (nI x)))) := by
  obtain ⟨hsp, hsp1, hsp2⟩ := hX.sp
  obtain ⟨hsl, hsl2⟩ := hX.sl
  obtain ⟨hcr, hcr2⟩ := hX.cr
  have hin : 0 ≤ nI x ∧ nI x < tv 1 := by rw [hsl]; exact in_S hx (by omega)
  refine Con.of (by decide) (Nat.le_of_ble_eq_true rfl) ?_
  refine XG.blk tX8_weakest_ok 0 2 (pc' := 2) (pl' := [some (.ref 0), some (.int (nI x)), none]) (st' := [(.int (-1)), (.int (nI x))]) (W1 := (sW bv tv ta tb uv ua ub rv ra rb rt se pv pa gv ga ov oa qv qa hv ha nv na yv ya cf cs)) (bs := []) rfl rfl rfl ?_
  refine XG.br eX8_weakest_2 (P := (nI x) = (-1)) (r := []) rfl (tgt := 15) (by decide) (fun h2 => ?_) (fun h2 => ?_)
  · exfalso
    first | exact ne_m1 (by omega) h2 | exact h10 (by rw [if_pos hin]; decide) | exact ne_m1 (by omega) h29 | exact absurd (if_pos hin) (by rw [h10]; decide) | exact absurd h10 (by rw [if_pos hin]; decide)
  · skip
    refine XG.blk tX8_weakest_ok 3 2 (pc' := 7) (pl' := [some (.ref 0), some (.int (nI x)), none]) (st' := [(.int (nI x)), (.ref 0)]) (W1 := (sW bv tv ta tb uv ua ub rv ra rb rt se pv pa gv ga ov oa qv qa hv ha nv na yv ya cf cs)) (bs := []) rfl rfl rfl ?_
    refine XG.callV0 eX8_weakest_7 kl_X8_94 (cs_isSleeper (d - 1) bv tv ta tb uv ua ub rv ra rb rt se pv pa gv ga ov oa qv qa hv ha nv na yv ya cf cs (nI x)) (px_fitS (by omega)) rfl rfl rfl (Nat.le_of_ble_eq_true rfl) (fun r9 W9 hp9 hl9 => ?_)
    obtain ⟨rfl, rfl⟩ := hp9
    refine XG.br eX8_weakest_10 (P := ¬ (if 0 ≤ (nI x) ∧ (nI x) < tv 1 then 1 else 0) = 0) (r := []) rfl (tgt := 15) (by decide) (fun h10 => ?_) (fun h10 => ?_)
    · skip
      refine XG.blk tX8_weakest_ok 9 4 (pc' := 23) (pl' := [some (.ref 0), some (.int (nI x)), none]) (st' := [(.ref 68), (.ref 39)]) (W1 := (sW bv tv ta tb uv ua ub rv ra rb rt se pv pa gv ga ov oa qv qa hv ha nv na yv ya cf cs)) (bs := []) rfl rfl rfl ?_
      refine XG.callV (ro := [39, 40, 41, 42, 43, 44, 45, 46, 47, 48, 49, 50, 51, 52, 53, 54, 55, 56, 57, 37, 38, 1, 2, 3, 4, 5, 6, 7, 8, 9, 10, 11, 12, 13, 14, 15, 68, 69, 70, 71, 72]) (W1 := (pW pv pa gv ga ov oa se tv ta tb nv na)) eX8_weakest_23 kl_X8_218 (cc_findRows (d - 1) pv pa gv ga ov oa se tv ta tb nv na S lv v a hX hN (v 63) (by omega)) (px_fitS (by omega)) rfl ⟨rfl, by decide, by decide⟩ rfl rfl (Nat.le_of_ble_eq_true rfl) (fun r9 W9 hp9 hl9 => ?_)
      obtain ⟨pv1, pa1, gv1, ga1, ov1, oa1, se1, sk1, rfl, hM, rfl⟩ := hp9
      rw [pt_sp]
      show XG _ _ _ _ _ _ [(.int (pv1 0))] (sW bv tv (va_up ta 22 sk1) tb uv ua ub rv ra rb rt se1 pv1 pa1 gv1 ga1 ov1 oa1 qv qa hv ha nv na yv ya cf cs)
      refine XG.blk tX8_weakest_ok 14 3 (pc' := 29) (pl' := [some (.ref 0), some (.int (nI x)), some (.int (pv1 0))]) (st' := [(.int (-1)), (.int (nI x))]) (W1 := (sW bv tv (va_up ta 22 sk1) tb uv ua ub rv ra rb rt se1 pv1 pa1 gv1 ga1 ov1 oa1 qv qa hv ha nv na yv ya cf cs)) (bs := []) rfl rfl rfl ?_
      refine XG.br eX8_weakest_29 (P := ¬ (nI x) = (-1)) (r := []) rfl (tgt := 36) (by decide) (fun h29 => ?_) (fun h29 => ?_)
      · skip
        have q1 : (nI x).toNatClampNeg = x := nI_clamp (by omega)
        refine XG.blk tX8_weakest_ok 20 5 (pc' := 45) (pl' := [some (.ref 0), some (.int (nI x)), some (.int (pv1 0))]) (st' := [(.int ((pa1 4) (nI x).toNatClampNeg))]) (W1 := (sW bv tv (va_up ta 22 sk1) tb uv ua ub rv ra rb rt se1 pv1 pa1 gv1 ga1 ov1 oa1 qv qa hv ha nv na yv ya cf cs)) (bs := [px_vb (nI x) 6]) rfl rfl (by (try simp only [q1]); exact (px_all (px_vbN (by omega) (by decide)) rfl)) ?_
        simp only [q1]
        refine XS.iret eX8_weakest_45 rfl rfl ?_
        refine ⟨_, _, _, _, _, _, _, _, rfl, (chg.up (by decide)), ?_⟩
        unfold qWeak
        rw [if_neg (ne_m1 (by omega)), if_pos (px_vbN hx (by omega)), nI_clamp (by omega)]
        exact congrArg (fun z => some (Value.int z)) ((hM.2 (wk_nn (v 63) a lv (S.1 31) hsp1 hsl2)).2 x hx)
      · exfalso
        have h29 := Decidable.not_not.mp h29
        first | exact ne_m1 (by omega) h2 | exact h10 (by rw [if_pos hin]; decide) | exact ne_m1 (by omega) h29 | exact absurd (if_pos hin) (by rw [h10]; decide) | exact absurd h10 (by rw [if_pos hin]; decide)
    · exfalso
      have h10 := Decidable.not_not.mp h10
      first | exact ne_m1 (by omega) h2 | exact h10 (by rw [if_pos hin]; decide) | exact ne_m1 (by omega) h29 | exact absurd (if_pos hin) (by rw [h10]; decide) | exact absurd h10 (by rw [if_pos hin]; decide)
set_option maxHeartbeats 1000000 in
theorem cs_weakO (d : Nat) (bv : Nat → Int32) (tv : Nat → Int32) (ta : Nat → Nat → Int32) (tb : Nat → Nat → Int64) (uv : Nat → Int32) (ua : Nat → Nat → Int32) (ub : Nat → Nat → Int64) (rv : Nat → Int32) (ra : Nat → Nat → Int32) (rb : Nat → Nat → Int64) (rt : Value) (se : Nat → Int32) (pv : Nat → Int32) (pa : Nat → Nat → Int32) (gv : Nat → Int32) (ga : Nat → Nat → Int32) (ov : Nat → Int32) (oa : Nat → Nat → Int32) (qv : Nat → Int32) (qa : Nat → Nat → Int32) (hv : Nat → Int32) (ha : Nat → Nat → Int32) (nv : Nat → Int32) (na : Nat → Nat → Int32) (yv : Nat → Int32) (ya : Nat → Nat → Int32) (cf : Nat → Int32) (cs : Nat → Int32) (S : SD) (lv : Nat) (v : Nat → Int32) (a : Nat → Nat → Int32) (hX : CX S lv (aQ a) tv ta) (hN : CNt S (a 54) nv na) (p : Int32) (hp : ¬ p = -1) (hn : ¬ px_vb p (S.1 24) = true) (hd : 10 ≤ d) : Con mX8_weakest d [.ref 0, .int p] (sW bv tv ta tb uv ua ub rv ra rb rt se pv pa gv ga ov oa qv qa hv ha nv na yv ya cf cs) (fun r W' => ∃ pv' pa' gv' ga' ov' oa' se' ta', W' = (sW bv tv ta' tb uv ua ub rv ra rb rt se' pv' pa' gv' ga' ov' oa' qv qa hv ha nv na yv ya cf cs) ∧ chg [22] ta ta' ∧ r = some (.int (qWeak (v 63) a lv (S.1 23) (S.1 24) (S.1 31) p))) := by
  obtain ⟨hsp, hsp1, hsp2⟩ := hX.sp
  obtain ⟨hsl, hsl2⟩ := hX.sl
  obtain ⟨hcr, hcr2⟩ := hX.cr
  have hno : ¬ (0 ≤ p ∧ p < tv 1) := fun w => hn ((hX.isL p).mp w)
  refine Con.of (by decide) (Nat.le_of_ble_eq_true rfl) ?_
  refine XG.blk tX8_weakest_ok 0 2 (pc' := 2) (pl' := [some (.ref 0), some (.int p), none]) (st' := [(.int (-1)), (.int p)]) (W1 := (sW bv tv ta tb uv ua ub rv ra rb rt se pv pa gv ga ov oa qv qa hv ha nv na yv ya cf cs)) (bs := []) rfl rfl rfl ?_
  refine XG.br eX8_weakest_2 (P := p = (-1)) (r := []) rfl (tgt := 15) (by decide) (fun h2 => ?_) (fun h2 => ?_)
  · exfalso
    first | exact hp h2 | exact h10 (if_neg hno)
  · skip
    refine XG.blk tX8_weakest_ok 3 2 (pc' := 7) (pl' := [some (.ref 0), some (.int p), none]) (st' := [(.int p), (.ref 0)]) (W1 := (sW bv tv ta tb uv ua ub rv ra rb rt se pv pa gv ga ov oa qv qa hv ha nv na yv ya cf cs)) (bs := []) rfl rfl rfl ?_
    refine XG.callV0 eX8_weakest_7 kl_X8_94 (cs_isSleeper (d - 1) bv tv ta tb uv ua ub rv ra rb rt se pv pa gv ga ov oa qv qa hv ha nv na yv ya cf cs p) (px_fitS (by omega)) rfl rfl rfl (Nat.le_of_ble_eq_true rfl) (fun r9 W9 hp9 hl9 => ?_)
    obtain ⟨rfl, rfl⟩ := hp9
    refine XG.br eX8_weakest_10 (P := ¬ (if 0 ≤ p ∧ p < tv 1 then 1 else 0) = 0) (r := []) rfl (tgt := 15) (by decide) (fun h10 => ?_) (fun h10 => ?_)
    · exfalso
      first | exact hp h2 | exact h10 (if_neg hno)
    · skip
      have h10 := Decidable.not_not.mp h10
      refine XG.blk tX8_weakest_ok 7 1 (pc' := 14) (pl' := [some (.ref 0), some (.int p), none]) (st' := [(.int (-1))]) (W1 := (sW bv tv ta tb uv ua ub rv ra rb rt se pv pa gv ga ov oa qv qa hv ha nv na yv ya cf cs)) (bs := []) rfl rfl rfl ?_
      refine XS.iret eX8_weakest_14 rfl rfl ?_
      refine ⟨_, _, _, _, _, _, _, _, rfl, chg.rf, ?_⟩
      unfold qWeak
      rw [if_neg hp, if_neg hn]
theorem cs_weakest (d : Nat) (bv : Nat → Int32) (tv : Nat → Int32) (ta : Nat → Nat → Int32) (tb : Nat → Nat → Int64) (uv : Nat → Int32) (ua : Nat → Nat → Int32) (ub : Nat → Nat → Int64) (rv : Nat → Int32) (ra : Nat → Nat → Int32) (rb : Nat → Nat → Int64) (rt : Value) (se : Nat → Int32) (pv : Nat → Int32) (pa : Nat → Nat → Int32) (gv : Nat → Int32) (ga : Nat → Nat → Int32) (ov : Nat → Int32) (oa : Nat → Nat → Int32) (qv : Nat → Int32) (qa : Nat → Nat → Int32) (hv : Nat → Int32) (ha : Nat → Nat → Int32) (nv : Nat → Int32) (na : Nat → Nat → Int32) (yv : Nat → Int32) (ya : Nat → Nat → Int32) (cf : Nat → Int32) (cs : Nat → Int32) (S : SD) (lv : Nat) (v : Nat → Int32) (a : Nat → Nat → Int32) (hX : CX S lv (aQ a) tv ta) (hN : CNt S (a 54) nv na) (p : Int32) (hd : 10 ≤ d) : Con mX8_weakest d [.ref 0, .int p] (sW bv tv ta tb uv ua ub rv ra rb rt se pv pa gv ga ov oa qv qa hv ha nv na yv ya cf cs) (fun r W' => ∃ pv' pa' gv' ga' ov' oa' se' ta', W' = (sW bv tv ta' tb uv ua ub rv ra rb rt se' pv' pa' gv' ga' ov' oa' qv qa hv ha nv na yv ya cf cs) ∧ chg [22] ta ta' ∧ r = some (.int (qWeak (v 63) a lv (S.1 23) (S.1 24) (S.1 31) p))) := by
  obtain ⟨hsp, hsp1, hsp2⟩ := hX.sp
  obtain ⟨hsl, hsl2⟩ := hX.sl
  obtain ⟨hcr, hcr2⟩ := hX.cr
  by_cases hp : p = -1
  · subst hp
    exact cs_weakN d bv tv ta tb uv ua ub rv ra rb rt se pv pa gv ga ov oa qv qa hv ha nv na yv ya cf cs S lv v a hX hN hd
  · by_cases hn : px_vb p (S.1 24) = true
    · obtain ⟨x, hx, rfl⟩ := px_vb_ex hn (by omega)
      exact cs_weakI d bv tv ta tb uv ua ub rv ra rb rt se pv pa gv ga ov oa qv qa hv ha nv na yv ya cf cs S lv v a hX hN x hx hd
    · exact cs_weakO d bv tv ta tb uv ua ub rv ra rb rt se pv pa gv ga ov oa qv qa hv ha nv na yv ya cf cs S lv v a hX hN p hp hn hd
set_option maxHeartbeats 1000000 in
theorem cs_orderN (d : Nat) (bv : Nat → Int32) (tv : Nat → Int32) (ta : Nat → Nat → Int32) (tb : Nat → Nat → Int64) (uv : Nat → Int32) (ua : Nat → Nat → Int32) (ub : Nat → Nat → Int64) (rv : Nat → Int32) (ra : Nat → Nat → Int32) (rb : Nat → Nat → Int64) (rt : Value) (se : Nat → Int32) (pv : Nat → Int32) (pa : Nat → Nat → Int32) (gv : Nat → Int32) (ga : Nat → Nat → Int32) (ov : Nat → Int32) (oa : Nat → Nat → Int32) (qv : Nat → Int32) (qa : Nat → Nat → Int32) (hv : Nat → Int32) (ha : Nat → Nat → Int32) (nv : Nat → Int32) (na : Nat → Nat → Int32) (yv : Nat → Int32) (ya : Nat → Nat → Int32) (cf : Nat → Int32) (cs : Nat → Int32) (S : SD) (lv : Nat) (v : Nat → Int32) (a : Nat → Nat → Int32) (hX : CX S lv (aQ a) tv ta) (hN : CNt S (a 54) nv na) (H : Nat) (hGR : GR S H (a 54)) (hH : H ≤ 50000) (hd : 13 ≤ d) : Con mX8_order d [.ref 0, .int (-1)] (sW bv tv ta tb uv ua ub rv ra rb rt se pv pa gv ga ov oa qv qa hv ha nv na yv ya cf cs) (fun r W' => ∃ pv' pa' gv' ga' ov' oa' se' ta', W' = (sW bv tv ta' tb uv ua ub rv ra rb rt se' pv' pa' gv' ga' ov' oa' qv qa hv ha nv na yv ya cf cs) ∧ chg [22] ta ta' ∧ r = some (.int (qOrder (v 67) v a lv (S.1 23) (S.1 24) (S.1 31) (-1)))) := by
  obtain ⟨hsp, hsp1, hsp2⟩ := hX.sp
  obtain ⟨hsl, hsl2⟩ := hX.sl
  obtain ⟨hcr, hcr2⟩ := hX.cr
  have hPC : pcN (mkN (fun k => decide (a 54 (18 + k) = -2)) (S.1 31)) 6 = (hmL (a 54) (S.1 31)).length := home_pc (a 54) (show S.1 31 ≤ 6 by omega)
  have hm64 : (mkN (fun k => decide (a 54 (18 + k) = -2)) (S.1 31)) < 64 := mkN_64 (show S.1 31 ≤ 6 by omega)
  have hL5 : (hmL (a 54) (S.1 31)).length ≤ 5 := Nat.le_trans (hmL_len (a 54) (S.1 31)) hcr2
  have hnn : ¬ (itN (orF v a lv (S.1 23) (S.1 24) (S.1 31) (hmL (a 54) (S.1 31))) (v 67, -1) (5 ^ (hmL (a 54) (S.1 31)).length)).2 < 0 := by
    have hp5 := p5_le (k := (hmL (a 54) (S.1 31)).length) (by omega)
    obtain ⟨w, hw, -, e, -, -⟩ := or_ex (v 67) v a lv (S.1 23) (S.1 24) (S.1 31) (hmL (a 54) (S.1 31)) hsp2 hsl2 hcr2 hX.tl hL5 (fun j hj => hmL_lt hj)
    unfold orR at e
    rw [e]
    exact nI_nn (by omega)
  refine Con.of (by decide) (Nat.le_of_ble_eq_true rfl) ?_
  refine XG.blk tX8_order_ok 0 2 (pc' := 2) (pl' := [some (.ref 0), some (.int (-1)), none]) (st' := [(.int (-1)), (.int (-1))]) (W1 := (sW bv tv ta tb uv ua ub rv ra rb rt se pv pa gv ga ov oa qv qa hv ha nv na yv ya cf cs)) (bs := []) rfl rfl rfl ?_
  refine XG.br eX8_order_2 (P := (-1) < (-1)) (r := []) rfl (tgt := 25) (by decide) (fun h2 => ?_) (fun h2 => ?_)
  · exfalso
    first | exact absurd h2 (by decide) | exact h22 (m1_lt (by omega)) | exact h41 rfl
  · skip
    refine XG.blk tX8_order_ok 3 6 (pc' := 16) (pl' := [some (.ref 0), some (.int (-1)), none]) (st' := [(.int (-2)), (.ref 68), (.ref 37), (.int (-1))]) (W1 := (sW bv tv ta tb uv ua ub rv ra rb rt se pv pa gv ga ov oa qv qa hv ha nv na yv ya cf cs)) (bs := []) rfl rfl rfl ?_
    refine XG.callV (ro := [37, 38, 1, 2, 3, 4, 5, 6, 7, 8, 9, 10, 11, 12, 13, 14, 15, 68, 69, 70, 71, 72]) (W1 := (rW se tv ta tb nv na)) eX8_order_16 kl_X8_148 (cc_crossersAt (d - 1) se tv ta tb nv na S lv (aQ a) hX (a 54) hN (-2)) (px_fitS (by omega)) rfl ⟨rfl, by decide, by decide⟩ rfl rfl (Nat.le_of_ble_eq_true rfl) (fun r9 W9 hp9 hl9 => ?_)
    obtain ⟨rfl, rfl⟩ := hp9
    rw [bits_mk (a 54) 18 (-2) (show S.1 31 ≤ 6 by omega)]
    rw [pt_srn]
    show XG _ _ _ _ _ _ [(.int (nI (mkN (fun k => decide (a 54 (18 + k) = -2)) (S.1 31)))), (.int (-1))] (sW bv tv ta tb uv ua ub rv ra rb rt se pv pa gv ga ov oa qv qa hv ha nv na yv ya cf cs)
    refine XG.callSp (r := some (.int (nI (pcN (mkN (fun k => decide (a 54 (18 + k) = -2)) (S.1 31)) 6)))) eX8_order_19 kl_X8_206 (con_bitCount (d - 1) (mkN (fun k => decide (a 54 (18 + k) = -2)) (S.1 31)) (by omega)) (px_fitS (by omega)) rfl rfl rfl rfl (Nat.le_of_ble_eq_true rfl) ?_
    refine XG.br eX8_order_22 (P := (-1) < (nI (pcN (mkN (fun k => decide (a 54 (18 + k) = -2)) (S.1 31)) 6))) (r := []) rfl (tgt := 27) (by decide) (fun h22 => ?_) (fun h22 => ?_)
    · skip
      refine XG.blk tX8_order_ok 14 4 (pc' := 35) (pl' := [some (.ref 0), some (.int (-1)), none]) (st' := [(.ref 68), (.ref 39)]) (W1 := (sW bv tv ta tb uv ua ub rv ra rb rt se pv pa gv ga ov oa qv qa hv ha nv na yv ya cf cs)) (bs := []) rfl rfl rfl ?_
      refine XG.callV (ro := [39, 40, 41, 42, 43, 44, 45, 46, 47, 48, 49, 50, 51, 52, 53, 54, 55, 56, 57, 37, 38, 1, 2, 3, 4, 5, 6, 7, 8, 9, 10, 11, 12, 13, 14, 15, 68, 69, 70, 71, 72]) (W1 := (pW pv pa gv ga ov oa se tv ta tb nv na)) eX8_order_35 kl_X8_244 (cc_findOrder (d - 1) pv pa gv ga ov oa se tv ta tb nv na S lv v a hX hN (v 67) H hGR hH (by omega)) (px_fitS (by omega)) rfl ⟨rfl, by decide, by decide⟩ rfl rfl (Nat.le_of_ble_eq_true rfl) (fun r9 W9 hp9 hl9 => ?_)
      obtain ⟨pv1, pa1, gv1, ga1, ov1, oa1, se1, sk1, rfl, hM, rfl⟩ := hp9
      rw [pt_sp]
      show XG _ _ _ _ _ _ [(.int (pv1 14))] (sW bv tv (va_up ta 22 sk1) tb uv ua ub rv ra rb rt se1 pv1 pa1 gv1 ga1 ov1 oa1 qv qa hv ha nv na yv ya cf cs)
      refine XG.blk tX8_order_ok 19 3 (pc' := 41) (pl' := [some (.ref 0), some (.int (-1)), some (.int (pv1 14))]) (st' := [(.int (-1)), (.int (-1))]) (W1 := (sW bv tv (va_up ta 22 sk1) tb uv ua ub rv ra rb rt se1 pv1 pa1 gv1 ga1 ov1 oa1 qv qa hv ha nv na yv ya cf cs)) (bs := []) rfl rfl rfl ?_
      refine XG.br eX8_order_41 (P := ¬ (-1) = (-1)) (r := []) rfl (tgt := 48) (by decide) (fun h41 => ?_) (fun h41 => ?_)
      · exfalso
        first | exact absurd h2 (by decide) | exact h22 (m1_lt (by omega)) | exact h41 rfl
      · skip
        have h41 := Decidable.not_not.mp h41
        refine XG.blk tX8_order_ok 23 1 (pc' := 45) (pl' := [some (.ref 0), some (.int (-1)), some (.int (pv1 14))]) (st' := [(.int (pv1 14))]) (W1 := (sW bv tv (va_up ta 22 sk1) tb uv ua ub rv ra rb rt se1 pv1 pa1 gv1 ga1 ov1 oa1 qv qa hv ha nv na yv ya cf cs)) (bs := []) rfl rfl rfl ?_
        refine XG.goto eX8_order_45 (tgt := 57) (by decide) ?_
        refine XS.iret eX8_order_57 rfl rfl ?_
        refine ⟨_, _, _, _, _, _, _, _, rfl, (chg.up (by decide)), ?_⟩
        unfold qOrder
        rw [if_pos ⟨by decide, by rw [Int32.le_iff_toInt_le, sub1_toInt (by omega), show (-1 : Int32).toInt = -1 from rfl]; omega⟩, if_pos rfl, (hM.2 hnn).1]
        rfl
    · exfalso
      first | exact absurd h2 (by decide) | exact h22 (m1_lt (by omega)) | exact h41 rfl
set_option maxHeartbeats 1000000 in
theorem cs_orderI (d : Nat) (bv : Nat → Int32) (tv : Nat → Int32) (ta : Nat → Nat → Int32) (tb : Nat → Nat → Int64) (uv : Nat → Int32) (ua : Nat → Nat → Int32) (ub : Nat → Nat → Int64) (rv : Nat → Int32) (ra : Nat → Nat → Int32) (rb : Nat → Nat → Int64) (rt : Value) (se : Nat → Int32) (pv : Nat → Int32) (pa : Nat → Nat → Int32) (gv : Nat → Int32) (ga : Nat → Nat → Int32) (ov : Nat → Int32) (oa : Nat → Nat → Int32) (qv : Nat → Int32) (qa : Nat → Nat → Int32) (hv : Nat → Int32) (ha : Nat → Nat → Int32) (nv : Nat → Int32) (na : Nat → Nat → Int32) (yv : Nat → Int32) (ya : Nat → Nat → Int32) (cf : Nat → Int32) (cs : Nat → Int32) (S : SD) (lv : Nat) (v : Nat → Int32) (a : Nat → Nat → Int32) (hX : CX S lv (aQ a) tv ta) (hN : CNt S (a 54) nv na) (H : Nat) (hGR : GR S H (a 54)) (hH : H ≤ 50000) (x : Nat) (hx : x < (hmL (a 54) (S.1 31)).length) (hd : 13 ≤ d) : Con mX8_order d [.ref 0, .int (nI x)] (sW bv tv ta tb uv ua ub rv ra rb rt se pv pa gv ga ov oa qv qa hv ha nv na yv ya cf cs) (fun r W' => ∃ pv' pa' gv' ga' ov' oa' se' ta', W' = (sW bv tv ta' tb uv ua ub rv ra rb rt se' pv' pa' gv' ga' ov' oa' qv qa hv ha nv na yv ya cf cs) ∧ chg [22] ta ta' ∧ r = some (.int (qOrder (v 67) v a lv (S.1 23) (S.1 24) (S.1 31) (nI x)))) := by
  obtain ⟨hsp, hsp1, hsp2⟩ := hX.sp
  obtain ⟨hsl, hsl2⟩ := hX.sl
  obtain ⟨hcr, hcr2⟩ := hX.cr
  have hPC : pcN (mkN (fun k => decide (a 54 (18 + k) = -2)) (S.1 31)) 6 = (hmL (a 54) (S.1 31)).length := home_pc (a 54) (show S.1 31 ≤ 6 by omega)
  have hm64 : (mkN (fun k => decide (a 54 (18 + k) = -2)) (S.1 31)) < 64 := mkN_64 (show S.1 31 ≤ 6 by omega)
  have hL5 : (hmL (a 54) (S.1 31)).length ≤ 5 := Nat.le_trans (hmL_len (a 54) (S.1 31)) hcr2
  have hnn : ¬ (itN (orF v a lv (S.1 23) (S.1 24) (S.1 31) (hmL (a 54) (S.1 31))) (v 67, -1) (5 ^ (hmL (a 54) (S.1 31)).length)).2 < 0 := by
    have hp5 := p5_le (k := (hmL (a 54) (S.1 31)).length) (by omega)
    obtain ⟨w, hw, -, e, -, -⟩ := or_ex (v 67) v a lv (S.1 23) (S.1 24) (S.1 31) (hmL (a 54) (S.1 31)) hsp2 hsl2 hcr2 hX.tl hL5 (fun j hj => hmL_lt hj)
    unfold orR at e
    rw [e]
    exact nI_nn (by omega)
  refine Con.of (by decide) (Nat.le_of_ble_eq_true rfl) ?_
  refine XG.blk tX8_order_ok 0 2 (pc' := 2) (pl' := [some (.ref 0), some (.int (nI x)), none]) (st' := [(.int (-1)), (.int (nI x))]) (W1 := (sW bv tv ta tb uv ua ub rv ra rb rt se pv pa gv ga ov oa qv qa hv ha nv na yv ya cf cs)) (bs := []) rfl rfl rfl ?_
  refine XG.br eX8_order_2 (P := (nI x) < (-1)) (r := []) rfl (tgt := 25) (by decide) (fun h2 => ?_) (fun h2 => ?_)
  · exfalso
    first | exact nn_m1 (by omega) h2 | exact ne_m1 (by omega) h41
  · skip
    refine XG.blk tX8_order_ok 3 6 (pc' := 16) (pl' := [some (.ref 0), some (.int (nI x)), none]) (st' := [(.int (-2)), (.ref 68), (.ref 37), (.int (nI x))]) (W1 := (sW bv tv ta tb uv ua ub rv ra rb rt se pv pa gv ga ov oa qv qa hv ha nv na yv ya cf cs)) (bs := []) rfl rfl rfl ?_
    refine XG.callV (ro := [37, 38, 1, 2, 3, 4, 5, 6, 7, 8, 9, 10, 11, 12, 13, 14, 15, 68, 69, 70, 71, 72]) (W1 := (rW se tv ta tb nv na)) eX8_order_16 kl_X8_148 (cc_crossersAt (d - 1) se tv ta tb nv na S lv (aQ a) hX (a 54) hN (-2)) (px_fitS (by omega)) rfl ⟨rfl, by decide, by decide⟩ rfl rfl (Nat.le_of_ble_eq_true rfl) (fun r9 W9 hp9 hl9 => ?_)
    obtain ⟨rfl, rfl⟩ := hp9
    rw [bits_mk (a 54) 18 (-2) (show S.1 31 ≤ 6 by omega)]
    rw [pt_srn]
    show XG _ _ _ _ _ _ [(.int (nI (mkN (fun k => decide (a 54 (18 + k) = -2)) (S.1 31)))), (.int (nI x))] (sW bv tv ta tb uv ua ub rv ra rb rt se pv pa gv ga ov oa qv qa hv ha nv na yv ya cf cs)
    refine XG.callSp (r := some (.int (nI (pcN (mkN (fun k => decide (a 54 (18 + k) = -2)) (S.1 31)) 6)))) eX8_order_19 kl_X8_206 (con_bitCount (d - 1) (mkN (fun k => decide (a 54 (18 + k) = -2)) (S.1 31)) (by omega)) (px_fitS (by omega)) rfl rfl rfl rfl (Nat.le_of_ble_eq_true rfl) ?_
    refine XG.br eX8_order_22 (P := (nI x) < (nI (pcN (mkN (fun k => decide (a 54 (18 + k) = -2)) (S.1 31)) 6))) (r := []) rfl (tgt := 27) (by decide) (fun h22 => ?_) (fun h22 => ?_)
    · skip
      have g22 : x < (pcN (mkN (fun k => decide (a 54 (18 + k) = -2)) (S.1 31)) 6) := (nI_ltI (a := x) (b := (pcN (mkN (fun k => decide (a 54 (18 + k) = -2)) (S.1 31)) 6)) (by omega) (by omega)).mp h22
      refine XG.blk tX8_order_ok 14 4 (pc' := 35) (pl' := [some (.ref 0), some (.int (nI x)), none]) (st' := [(.ref 68), (.ref 39)]) (W1 := (sW bv tv ta tb uv ua ub rv ra rb rt se pv pa gv ga ov oa qv qa hv ha nv na yv ya cf cs)) (bs := []) rfl rfl rfl ?_
      refine XG.callV (ro := [39, 40, 41, 42, 43, 44, 45, 46, 47, 48, 49, 50, 51, 52, 53, 54, 55, 56, 57, 37, 38, 1, 2, 3, 4, 5, 6, 7, 8, 9, 10, 11, 12, 13, 14, 15, 68, 69, 70, 71, 72]) (W1 := (pW pv pa gv ga ov oa se tv ta tb nv na)) eX8_order_35 kl_X8_244 (cc_findOrder (d - 1) pv pa gv ga ov oa se tv ta tb nv na S lv v a hX hN (v 67) H hGR hH (by omega)) (px_fitS (by omega)) rfl ⟨rfl, by decide, by decide⟩ rfl rfl (Nat.le_of_ble_eq_true rfl) (fun r9 W9 hp9 hl9 => ?_)
      obtain ⟨pv1, pa1, gv1, ga1, ov1, oa1, se1, sk1, rfl, hM, rfl⟩ := hp9
      rw [pt_sp]
      show XG _ _ _ _ _ _ [(.int (pv1 14))] (sW bv tv (va_up ta 22 sk1) tb uv ua ub rv ra rb rt se1 pv1 pa1 gv1 ga1 ov1 oa1 qv qa hv ha nv na yv ya cf cs)
      refine XG.blk tX8_order_ok 19 3 (pc' := 41) (pl' := [some (.ref 0), some (.int (nI x)), some (.int (pv1 14))]) (st' := [(.int (-1)), (.int (nI x))]) (W1 := (sW bv tv (va_up ta 22 sk1) tb uv ua ub rv ra rb rt se1 pv1 pa1 gv1 ga1 ov1 oa1 qv qa hv ha nv na yv ya cf cs)) (bs := []) rfl rfl rfl ?_
      refine XG.br eX8_order_41 (P := ¬ (nI x) = (-1)) (r := []) rfl (tgt := 48) (by decide) (fun h41 => ?_) (fun h41 => ?_)
      · skip
        have q1 : (nI x).toNatClampNeg = x := nI_clamp (by omega)
        refine XG.blk tX8_order_ok 25 5 (pc' := 57) (pl' := [some (.ref 0), some (.int (nI x)), some (.int (pv1 14))]) (st' := [(.int ((pa1 5) (nI x).toNatClampNeg))]) (W1 := (sW bv tv (va_up ta 22 sk1) tb uv ua ub rv ra rb rt se1 pv1 pa1 gv1 ga1 ov1 oa1 qv qa hv ha nv na yv ya cf cs)) (bs := [px_vb (nI x) 5]) rfl rfl (by (try simp only [q1]); exact (px_all (px_vbN (by omega) (by decide)) rfl)) ?_
        simp only [q1]
        refine XS.iret eX8_order_57 rfl rfl ?_
        refine ⟨_, _, _, _, _, _, _, _, rfl, (chg.up (by decide)), ?_⟩
        unfold qOrder
        rw [if_pos ⟨Int32.not_lt.mp (nn_m1 (by omega)), lt_sub1 (by omega) ((nI_ltI (by omega) (by omega)).mpr hx)⟩, if_neg (ne_m1 (by omega)), nI_clamp (show x < 2 ^ 31 by omega)]
        exact congrArg (fun z => some (Value.int z)) ((hM.2 hnn).2 x hx)
      · exfalso
        have h41 := Decidable.not_not.mp h41
        first | exact nn_m1 (by omega) h2 | exact ne_m1 (by omega) h41
    · exfalso
      have g22 : ¬ x < (pcN (mkN (fun k => decide (a 54 (18 + k) = -2)) (S.1 31)) 6) := (fun z_9 => h22 ((nI_ltI (a := x) (b := (pcN (mkN (fun k => decide (a 54 (18 + k) = -2)) (S.1 31)) 6)) (by omega) (by omega)).mpr z_9))
      omega
set_option maxHeartbeats 1000000 in
theorem cs_orderO (d : Nat) (bv : Nat → Int32) (tv : Nat → Int32) (ta : Nat → Nat → Int32) (tb : Nat → Nat → Int64) (uv : Nat → Int32) (ua : Nat → Nat → Int32) (ub : Nat → Nat → Int64) (rv : Nat → Int32) (ra : Nat → Nat → Int32) (rb : Nat → Nat → Int64) (rt : Value) (se : Nat → Int32) (pv : Nat → Int32) (pa : Nat → Nat → Int32) (gv : Nat → Int32) (ga : Nat → Nat → Int32) (ov : Nat → Int32) (oa : Nat → Nat → Int32) (qv : Nat → Int32) (qa : Nat → Nat → Int32) (hv : Nat → Int32) (ha : Nat → Nat → Int32) (nv : Nat → Int32) (na : Nat → Nat → Int32) (yv : Nat → Int32) (ya : Nat → Nat → Int32) (cf : Nat → Int32) (cs : Nat → Int32) (S : SD) (lv : Nat) (v : Nat → Int32) (a : Nat → Nat → Int32) (hX : CX S lv (aQ a) tv ta) (hN : CNt S (a 54) nv na) (p : Int32) (hno : ¬ okI (hmL (a 54) (S.1 31)).length p) (hd : 13 ≤ d) : Con mX8_order d [.ref 0, .int p] (sW bv tv ta tb uv ua ub rv ra rb rt se pv pa gv ga ov oa qv qa hv ha nv na yv ya cf cs) (fun r W' => ∃ pv' pa' gv' ga' ov' oa' se' ta', W' = (sW bv tv ta' tb uv ua ub rv ra rb rt se' pv' pa' gv' ga' ov' oa' qv qa hv ha nv na yv ya cf cs) ∧ chg [22] ta ta' ∧ r = some (.int (qOrder (v 67) v a lv (S.1 23) (S.1 24) (S.1 31) p))) := by
  obtain ⟨hsp, hsp1, hsp2⟩ := hX.sp
  obtain ⟨hsl, hsl2⟩ := hX.sl
  obtain ⟨hcr, hcr2⟩ := hX.cr
  have hPC : pcN (mkN (fun k => decide (a 54 (18 + k) = -2)) (S.1 31)) 6 = (hmL (a 54) (S.1 31)).length := home_pc (a 54) (show S.1 31 ≤ 6 by omega)
  have hm64 : (mkN (fun k => decide (a 54 (18 + k) = -2)) (S.1 31)) < 64 := mkN_64 (show S.1 31 ≤ 6 by omega)
  have hL5 : (hmL (a 54) (S.1 31)).length ≤ 5 := Nat.le_trans (hmL_len (a 54) (S.1 31)) hcr2
  refine Con.of (by decide) (Nat.le_of_ble_eq_true rfl) ?_
  refine XG.blk tX8_order_ok 0 2 (pc' := 2) (pl' := [some (.ref 0), some (.int p), none]) (st' := [(.int (-1)), (.int p)]) (W1 := (sW bv tv ta tb uv ua ub rv ra rb rt se pv pa gv ga ov oa qv qa hv ha nv na yv ya cf cs)) (bs := []) rfl rfl rfl ?_
  refine XG.br eX8_order_2 (P := p < (-1)) (r := []) rfl (tgt := 25) (by decide) (fun h2 => ?_) (fun h2 => ?_)
  · skip
    refine XG.blk tX8_order_ok 12 1 (pc' := 26) (pl' := [some (.ref 0), some (.int p), none]) (st' := [(.int (-1))]) (W1 := (sW bv tv ta tb uv ua ub rv ra rb rt se pv pa gv ga ov oa qv qa hv ha nv na yv ya cf cs)) (bs := []) rfl rfl rfl ?_
    refine XS.iret eX8_order_26 rfl rfl ?_
    refine ⟨_, _, _, _, _, _, _, _, rfl, chg.rf, ?_⟩
    unfold qOrder
    rw [if_neg hno]
  · skip
    refine XG.blk tX8_order_ok 3 6 (pc' := 16) (pl' := [some (.ref 0), some (.int p), none]) (st' := [(.int (-2)), (.ref 68), (.ref 37), (.int p)]) (W1 := (sW bv tv ta tb uv ua ub rv ra rb rt se pv pa gv ga ov oa qv qa hv ha nv na yv ya cf cs)) (bs := []) rfl rfl rfl ?_
    refine XG.callV (ro := [37, 38, 1, 2, 3, 4, 5, 6, 7, 8, 9, 10, 11, 12, 13, 14, 15, 68, 69, 70, 71, 72]) (W1 := (rW se tv ta tb nv na)) eX8_order_16 kl_X8_148 (cc_crossersAt (d - 1) se tv ta tb nv na S lv (aQ a) hX (a 54) hN (-2)) (px_fitS (by omega)) rfl ⟨rfl, by decide, by decide⟩ rfl rfl (Nat.le_of_ble_eq_true rfl) (fun r9 W9 hp9 hl9 => ?_)
    obtain ⟨rfl, rfl⟩ := hp9
    rw [bits_mk (a 54) 18 (-2) (show S.1 31 ≤ 6 by omega)]
    rw [pt_srn]
    show XG _ _ _ _ _ _ [(.int (nI (mkN (fun k => decide (a 54 (18 + k) = -2)) (S.1 31)))), (.int p)] (sW bv tv ta tb uv ua ub rv ra rb rt se pv pa gv ga ov oa qv qa hv ha nv na yv ya cf cs)
    refine XG.callSp (r := some (.int (nI (pcN (mkN (fun k => decide (a 54 (18 + k) = -2)) (S.1 31)) 6)))) eX8_order_19 kl_X8_206 (con_bitCount (d - 1) (mkN (fun k => decide (a 54 (18 + k) = -2)) (S.1 31)) (by omega)) (px_fitS (by omega)) rfl rfl rfl rfl (Nat.le_of_ble_eq_true rfl) ?_
    refine XG.br eX8_order_22 (P := p < (nI (pcN (mkN (fun k => decide (a 54 (18 + k) = -2)) (S.1 31)) 6))) (r := []) rfl (tgt := 27) (by decide) (fun h22 => ?_) (fun h22 => ?_)
    · exfalso
      exact hno ⟨Int32.not_lt.mp h2, lt_sub1 (by omega) (hPC ▸ h22)⟩
    · skip
      refine XG.blk tX8_order_ok 12 1 (pc' := 26) (pl' := [some (.ref 0), some (.int p), none]) (st' := [(.int (-1))]) (W1 := (sW bv tv ta tb uv ua ub rv ra rb rt se pv pa gv ga ov oa qv qa hv ha nv na yv ya cf cs)) (bs := []) rfl rfl rfl ?_
      refine XS.iret eX8_order_26 rfl rfl ?_
      refine ⟨_, _, _, _, _, _, _, _, rfl, chg.rf, ?_⟩
      unfold qOrder
      rw [if_neg hno]
theorem cs_order (d : Nat) (bv : Nat → Int32) (tv : Nat → Int32) (ta : Nat → Nat → Int32) (tb : Nat → Nat → Int64) (uv : Nat → Int32) (ua : Nat → Nat → Int32) (ub : Nat → Nat → Int64) (rv : Nat → Int32) (ra : Nat → Nat → Int32) (rb : Nat → Nat → Int64) (rt : Value) (se : Nat → Int32) (pv : Nat → Int32) (pa : Nat → Nat → Int32) (gv : Nat → Int32) (ga : Nat → Nat → Int32) (ov : Nat → Int32) (oa : Nat → Nat → Int32) (qv : Nat → Int32) (qa : Nat → Nat → Int32) (hv : Nat → Int32) (ha : Nat → Nat → Int32) (nv : Nat → Int32) (na : Nat → Nat → Int32) (yv : Nat → Int32) (ya : Nat → Nat → Int32) (cf : Nat → Int32) (cs : Nat → Int32) (S : SD) (lv : Nat) (v : Nat → Int32) (a : Nat → Nat → Int32) (hX : CX S lv (aQ a) tv ta) (hN : CNt S (a 54) nv na) (H : Nat) (hGR : GR S H (a 54)) (hH : H ≤ 50000) (p : Int32) (hd : 13 ≤ d) : Con mX8_order d [.ref 0, .int p] (sW bv tv ta tb uv ua ub rv ra rb rt se pv pa gv ga ov oa qv qa hv ha nv na yv ya cf cs) (fun r W' => ∃ pv' pa' gv' ga' ov' oa' se' ta', W' = (sW bv tv ta' tb uv ua ub rv ra rb rt se' pv' pa' gv' ga' ov' oa' qv qa hv ha nv na yv ya cf cs) ∧ chg [22] ta ta' ∧ r = some (.int (qOrder (v 67) v a lv (S.1 23) (S.1 24) (S.1 31) p))) := by
  obtain ⟨hsp, hsp1, hsp2⟩ := hX.sp
  obtain ⟨hsl, hsl2⟩ := hX.sl
  obtain ⟨hcr, hcr2⟩ := hX.cr
  have hL5 : (hmL (a 54) (S.1 31)).length ≤ 5 := Nat.le_trans (hmL_len (a 54) (S.1 31)) hcr2
  by_cases hok : okI (hmL (a 54) (S.1 31)).length p
  · by_cases hp : p = -1
    · subst hp
      exact cs_orderN d bv tv ta tb uv ua ub rv ra rb rt se pv pa gv ga ov oa qv qa hv ha nv na yv ya cf cs S lv v a hX hN H hGR hH hd
    · obtain ⟨x, hx, rfl⟩ := okI_x hL5 hok hp
      exact cs_orderI d bv tv ta tb uv ua ub rv ra rb rt se pv pa gv ga ov oa qv qa hv ha nv na yv ya cf cs S lv v a hX hN H hGR hH x hx hd
  · exact cs_orderO d bv tv ta tb uv ua ub rv ra rb rt se pv pa gv ga ov oa qv qa hv ha nv na yv ya cf cs S lv v a hX hN p hok hd
