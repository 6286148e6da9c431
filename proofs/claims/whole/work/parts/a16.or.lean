/-! THE CLASS: order -/
theorem pt_phg (pv : Nat → Int32) (pa : Nat → Nat → Int32) (gv : Nat → Int32) (ga : Nat → Nat → Int32) (ov : Nat → Int32) (oa : Nat → Nat → Int32) (se : Nat → Int32) (tv : Nat → Int32) (ta : Nat → Nat → Int32) (tb : Nat → Nat → Int64) (nv : Nat → Int32) (na : Nat → Nat → Int32) (cf : Nat → Int32) (gv' : Nat → Int32) (ga' : Nat → Nat → Int32) : px_pt (px_f [17, 18, 7, 8, 9, 10, 11]) [17, 18, 7, 8, 9, 10, 11] (hW 162 cf gv' ga') (pW pv pa gv ga ov oa se tv ta tb nv na) = pW pv (va_up pa 9 cf) gv' ga' ov oa se tv ta tb nv na := by
  unfold pW hW
  simp only [px_pt, List.set_cons_succ, List.set_cons_zero]
  rfl
theorem pt_phn (pv : Nat → Int32) (pa : Nat → Nat → Int32) (gv : Nat → Int32) (ga : Nat → Nat → Int32) (ov : Nat → Int32) (oa : Nat → Nat → Int32) (se : Nat → Int32) (tv : Nat → Int32) (ta : Nat → Nat → Int32) (tb : Nat → Nat → Int64) (nv : Nat → Int32) (na : Nat → Nat → Int32) (cf : Nat → Int32) (nv' : Nat → Int32) (na' : Nat → Nat → Int32) : px_pt (px_f [17, 18, 36, 37, 38, 39, 40]) [17, 18, 36, 37, 38, 39, 40] (hW 162 cf nv' na') (pW pv pa gv ga ov oa se tv ta tb nv na) = pW pv (va_up pa 9 cf) gv ga ov oa se tv ta tb nv' na' := by
  unfold pW hW
  simp only [px_pt, List.set_cons_succ, List.set_cons_zero]
  rfl
set_option maxHeartbeats 1000000 in
theorem cc_weighOrder (d : Nat) (pv : Nat → Int32) (pa : Nat → Nat → Int32) (gv : Nat → Int32) (ga : Nat → Nat → Int32) (ov : Nat → Int32) (oa : Nat → Nat → Int32) (se : Nat → Int32) (tv : Nat → Int32) (ta : Nat → Nat → Int32) (tb : Nat → Nat → Int64) (nv : Nat → Int32) (na : Nat → Nat → Int32) (t : Int32) (hd : 1 ≤ d) : Con mX2_weighOrder d [.ref 0, .int t] (pW pv pa gv ga ov oa se tv ta tb nv na) (fun r W' => ∃ pv' pa', W' = pW pv' pa' gv ga ov oa se tv ta tb nv na ∧ (pv' 14 = if pv 14 < t then t else pv 14) ∧ (∀ b, b < 5 → pa' 5 b = if pv 14 < t then pa 13 b else pa 5 b) ∧ (pa' 13 = pa 13 ∧ pa' 9 = pa 9) ∧ r = none) := by
  refine Con.of (by decide) (Nat.le_of_ble_eq_true rfl) ?_
  refine XG.blk tX2_weighOrder_ok 0 3 (pc' := 5) (pl' := [some (.ref 0), some (.int t)]) (st' := [(.int (pv 14)), (.int t)]) (W1 := (pW pv pa gv ga ov oa se tv ta tb nv na)) (bs := []) rfl rfl rfl ?_
  refine XG.br eX2_weighOrder_5 (P := t ≤ (pv 14)) (r := []) rfl (tgt := 27) (by decide) (fun h5 => ?_) (fun h5 => ?_)
  · skip
    refine XS.vret eX2_weighOrder_27 rfl ?_
    refine ⟨_, _, rfl, (if_neg (Int32.not_lt.mpr h5)).symm, fun b hb => (if_neg (Int32.not_lt.mpr h5)).symm, ⟨rfl, rfl⟩, rfl⟩
  · skip
    refine XG.blk tX2_weighOrder_ok 4 10 (pc' := 24) (pl' := [some (.ref 0), some (.int t)]) (st' := [(.int (nI 5)), (.int (nI 0)), (.ref 2), (.int (nI 0)), (.ref 6)]) (W1 := (pW (va_up pv 14 t) pa gv ga ov oa se tv ta tb nv na)) (bs := []) rfl rfl rfl ?_
    have q1 : (nI 0).toNatClampNeg = 0 := nI_clamp (by omega)
    have q2 : (nI 0).toNatClampNeg = 0 := nI_clamp (by omega)
    have q3 : (nI 5).toNatClampNeg = 5 := nI_clamp (by omega)
    refine XG.copyi (q0 := 6) (q1 := 2) (n0 := 5) (n1 := 5) (f := (pa 13)) (g := (pa 5)) eX2_weighOrder_24 kc_X2_91 rfl rfl (nI_nn (by omega)) (nI_nn (by omega)) (nI_nn (by omega)) (by rw [q1, q3]; omega) (by rw [q2, q3]; omega) (show 1 ≤ d by omega) (show 60 ≤ 60 * d by omega) (Nat.le_of_ble_eq_true rfl) ?_
    rw [q1, q3]
    show XG _ _ _ _ _ _ [] (pW (va_up pv 14 t) (va_up pa 5 (va_cpy (pa 13) (pa 5) 0 0 5)) gv ga ov oa se tv ta tb nv na)
    refine XS.vret eX2_weighOrder_27 rfl ?_
    refine ⟨_, _, rfl, (if_pos (Int32.not_le.mp h5)).symm, fun b hb => ?_, ⟨rfl, rfl⟩, rfl⟩
    rw [if_pos (Int32.not_le.mp h5)]; exact sb_cpy0 hb
theorem or_step {S : SD} {lv : Nat} {v : Nat → Int32} {a : Nat → Nat → Int32} {tv : Nat → Int32} {ta : Nat → Nat → Int32} (hX : CX S lv (aQ a) tv ta) {y : Nat} (hy : y < 2 ^ 31) (hok : okO (hmL (a 54) (S.1 31)).length y) {x : Int32} {pv pv' : Nat → Int32} {pa pa' : Nat → Nat → Int32} (h : orS x v a lv (S.1 23) (S.1 24) (S.1 31) (hmL (a 54) (S.1 31)) y pv pa) (hrow : ∀ b, b < (hmL (a 54) (S.1 31)).length → pa 13 b = nI ((hmL (a 54) (S.1 31)).getD (dig y ((hmL (a 54) (S.1 31)).length - 1 - b)) 0)) {t : Int32} (ht : t = tbV v a lv (S.1 23) (S.1 24) (S.1 31) (hmL (a 54) (S.1 31)).length (fun j => (hmL (a 54) (S.1 31)).getD j 0) y) (h0 : pv' 14 = if pv 14 < t then t else pv 14) (h4 : ∀ b, b < 5 → pa' 5 b = if pv 14 < t then pa 13 b else pa 5 b) : orS x v a lv (S.1 23) (S.1 24) (S.1 31) (hmL (a 54) (S.1 31)) (y + 1) pv' pa' := by
  have hcr2 := hX.cr.2
  have hL5 : (hmL (a 54) (S.1 31)).length ≤ 5 := Nat.le_trans (hmL_len _ _) hcr2
  have htl : ∀ c, c < S.1 31 → ∃ t, t ≤ 99 ∧ a 34 (5 * lv + c) = nI t := fun c hc => ⟨_, (hX.2.2.1.2.2.2.2.2.1 c hc).2.2, hX.1.2.2.1 c hc 34 (by decide)⟩
  obtain ⟨k, hk, he⟩ := tb_nn v a lv (S.1 23) (S.1 24) (S.1 31) _ (fun j => (hmL (a 54) (S.1 31)).getD j 0) y hX.sp.2.2 hX.sl.2 hcr2 htl hok (fun i hi => hmL_lt hi)
  have hV : t = nI k := ht.trans he
  have hP : orP v a lv (S.1 23) (S.1 24) (S.1 31) (hmL (a 54) (S.1 31)) y = true := decide_eq_true ⟨hok, by rw [he]; exact nI_nn (by omega)⟩
  have e : itN (orF v a lv (S.1 23) (S.1 24) (S.1 31) (hmL (a 54) (S.1 31))) (x, -1) (y + 1) = orF v a lv (S.1 23) (S.1 24) (S.1 31) (hmL (a 54) (S.1 31)) y (itN (orF v a lv (S.1 23) (S.1 24) (S.1 31) (hmL (a 54) (S.1 31))) (x, -1) y) := rfl
  unfold orS at h ⊢
  rw [e]
  generalize itN (orF v a lv (S.1 23) (S.1 24) (S.1 31) (hmL (a 54) (S.1 31))) (x, -1) y = q at h ⊢
  have hc : (q.2 < 0 ∨ q.1 < t) ↔ pv 14 < t := by
    by_cases hq : q.2 < 0
    · rw [h.1 hq, hV]
      refine ⟨fun _ => ?_, fun _ => Or.inl hq⟩
      rw [Int32.lt_iff_toInt_lt, nI_toInt (by omega), show (-1 : Int32).toInt = -1 from rfl]; omega
    · rw [(h.2 hq).1]
      exact ⟨fun z => z.elim (fun n => absurd n hq) id, Or.inr⟩
  unfold orF bfF
  simp only [← ht]
  by_cases hlt : pv 14 < t
  · rw [if_pos ⟨hP, hc.mpr hlt⟩]
    rw [if_pos hlt] at h0
    refine ⟨fun z => absurd z (nI_nn hy), fun _ => ⟨h0, fun b hb => ?_⟩⟩
    rw [h4 b (by omega), if_pos hlt, hrow b hb]
    show _ = nI ((hmL (a 54) (S.1 31)).getD (dig (nI y).toNatClampNeg _) 0)
    rw [nI_clamp hy]
  · rw [if_neg (fun z => hlt (hc.mp z.2))]
    rw [if_neg hlt] at h0
    refine ⟨fun z => h0.trans (h.1 z), fun z => ⟨h0.trans (h.2 z).1, fun b hb => ?_⟩⟩
    rw [h4 b (by omega), if_neg hlt]
    exact (h.2 z).2 b hb
theorem or_no {v : Nat → Int32} {a : Nat → Nat → Int32} {lv sp sl cr : Nat} {row : Nat → Int32} {n s k y c : Nat} {p : Int32 × Int32} (hn : n ≤ 5) (hs : s + (k + 1) = (hmL row n).length) (h : ¬ (c < n ∧ lfB row s y c = true)) : itN (orF v a lv sp sl cr (hmL row n)) p ((5 * y + jx row (min (c + 1) n)) * 5 ^ k) = itN (orF v a lv sp sl cr (hmL row n)) p ((5 * y + jx row (min c n)) * 5 ^ k) := by
  by_cases hc : c < n
  · rw [show min (c + 1) n = c + 1 by omega, show min c n = c by omega]
    have e := hmL_s row c
    by_cases hh : row (18 + c) = -2
    · rw [if_pos hh] at e
      have e2 : jx row (c + 1) = jx row c + 1 := by unfold jx; rw [e, List.length_append]; rfl
      rw [e2]
      have h5 : jx row c < 5 := by have := (hmL_D hh hc).2; have := hmL_len row n; omega
      have hu : usd s y (jx row c) = true := by
        by_cases z : usd s y (jx row c) = true
        · exact z
        · exfalso; exact h ⟨hc, by unfold lfB; rw [decide_eq_true hh, show usd s y (jx row c) = false by simpa using z]; rfl⟩
      exact or_skip _ (Nat.mul_le_mul_right _ (by omega)) (fun z h1 h2 => decide_eq_false (fun w => or_used hs h5 hu (in_div h1 h2) w.1))
    · rw [if_neg hh] at e
      rw [show jx row (c + 1) = jx row c by unfold jx; rw [e]]
  · rw [show min (c + 1) n = n by omega, show min c n = n by omega]
theorem or_top {v : Nat → Int32} {a : Nat → Nat → Int32} {lv sp sl cr : Nat} {L : List Nat} {s k y : Nat} {p : Int32 × Int32} (hL : L.length ≤ 5) (hs : s + (k + 1) = L.length) : itN (orF v a lv sp sl cr L) p ((5 * y + 5) * 5 ^ k) = itN (orF v a lv sp sl cr L) p ((5 * y + L.length) * 5 ^ k) := by
  have hp : 0 < 5 ^ k := Nat.pow_pos (by decide)
  refine or_skip _ (Nat.mul_le_mul_right _ (by omega)) (fun z h1 h2 => decide_eq_false (fun w => ?_))
  have hq1 := (Nat.le_div_iff_mul_le hp).mpr h1
  have hq2 := (Nat.div_lt_iff_lt_mul hp).mpr h2
  exact or_high (y := y) (j := z / 5 ^ k - 5 * y) hs (by omega) (by omega) (by omega) w.1
theorem off_stays {S : SD} {R : Nat → Int32} (h : VR S R) (hsp : S.1 23 ≤ 5) (hn : ¬ (findN (onW R) (S.1 31) 0).isSome = true) : ∀ c, c < S.1 31 → stays (R (18 + c)) := by
  intro c hc
  have h1 : ¬ onW R c = true := fun z => hn (findN_is _ _ c (Nat.zero_le _) (by omega) z)
  have h2 : ¬ (R (18 + c) = -3 ∨ (¬ R (18 + c) < 0 ∧ ¬ nI 5 ≤ R (18 + c))) := fun z => h1 (decide_eq_true z)
  rcases h c hc with z | z | ⟨q, hq, z⟩ | z | z
  · exact absurd (Or.inl z) h2
  · exact Or.inl z
  · exfalso
    refine h2 (Or.inr ?_)
    rw [z]
    exact ⟨nI_nn (by omega), fun w => by have := (nI_leI (a := 5) (b := q) (by omega) (by omega)).mp w; omega⟩
  · exact Or.inr (Or.inl z)
  · exact Or.inr (Or.inr z)
set_option maxHeartbeats 1000000 in
theorem cc_tryOrders0 (d : Nat) (pv : Nat → Int32) (pa : Nat → Nat → Int32) (gv : Nat → Int32) (ga : Nat → Nat → Int32) (ov : Nat → Int32) (oa : Nat → Nat → Int32) (se : Nat → Int32) (tv : Nat → Int32) (ta : Nat → Nat → Int32) (tb : Nat → Nat → Int64) (nv : Nat → Int32) (na : Nat → Nat → Int32) (S : SD) (lv : Nat) (v : Nat → Int32) (a : Nat → Nat → Int32) (hX : CX S lv (aQ a) tv ta) (hN : CNt S (a 54) nv na) (sk : Nat → Int32) (s y : Nat) (hs : s + 0 = (hmL (a 54) (S.1 31)).length) (hcb : cB (lfB (a 54) s y) (S.1 31) + s = (hmL (a 54) (S.1 31)).length) (hQ : orQ S v a lv (hmL (a 54) (S.1 31)) s y pa) (x : Int32) (hWo : orS x v a lv (S.1 23) (S.1 24) (S.1 31) (hmL (a 54) (S.1 31)) (y * 5 ^ 0) pv pa) (H : Nat) (hGR : GR S H (a 54)) (hH : H ≤ 50000) (hok : okO (hmL (a 54) (S.1 31)).length y) (hy : y < 2 ^ 31) (hd : 6 ≤ d) : Con mX2_tryOrders d [.ref 0, .ref 36, .int (nI (mkN (lfB (a 54) s y) (S.1 31))), .int (nI s)] (pW pv pa gv ga ov oa se tv (va_up ta 22 sk) tb nv na) (fun r W' => ∃ pv' pa' gv' ga' se' sk', W' = pW pv' pa' gv' ga' ov oa se' tv (va_up ta 22 sk') tb nv na ∧ orQ S v a lv (hmL (a 54) (S.1 31)) s y pa' ∧ orS x v a lv (S.1 23) (S.1 24) (S.1 31) (hmL (a 54) (S.1 31)) ((y + 1) * 5 ^ 0) pv' pa' ∧ r = none) := by
  obtain ⟨hcr, hcr2⟩ := hX.cr
  obtain ⟨hsl, hsl2⟩ := hX.sl
  obtain ⟨hsp, hsp1, hsp2⟩ := hX.sp
  have hL5 : (hmL (a 54) (S.1 31)).length ≤ 5 := Nat.le_trans (hmL_len _ _) hcr2
  have hM : (mkN (lfB (a 54) s y) (S.1 31)) < 64 := mkN_64 (by omega)
  obtain rfl : s = (hmL (a 54) (S.1 31)).length := hs
  have hM0 : (mkN (lfB (a 54) (hmL (a 54) (S.1 31)).length y) (S.1 31)) = 0 := mkN_z.mpr (by omega)
  have hR0 : CNt S (prR (vQ v a lv (nI 1)) (aQ a) lv (S.1 23) (S.1 24) (S.1 31) (fun j => (hmL (a 54) (S.1 31)).getD j 0) (a 54) (hmL (a 54) (S.1 31)).length y) (shv (pa 9) (hmL (a 54) (S.1 31)).length) (sha (pa 9) (hmL (a 54) (S.1 31)).length) := by
    have h := hQ.2 (hmL (a 54) (S.1 31)).length (Nat.le_refl _)
    rw [Nat.sub_self, Nat.pow_zero, Nat.div_one] at h; exact h
  have hGs := prR_GR hX.2.1 hX.2.2.1 (vQ v a lv (nI 1)) (aQ a) lv (hmL_5 (a 54) hcr2) hGR (hmL (a 54) (S.1 31)).length y
  refine Con.of (by decide) (Nat.le_of_ble_eq_true rfl) ?_
  refine XG.blk tX2_tryOrders_ok 0 1 (pc' := 1) (pl' := [some (.ref 0), some (.ref 36), some (.int (nI (mkN (lfB (a 54) (hmL (a 54) (S.1 31)).length y) (S.1 31)))), some (.int (nI (hmL (a 54) (S.1 31)).length)), none]) (st' := [(.int (nI (mkN (lfB (a 54) (hmL (a 54) (S.1 31)).length y) (S.1 31))))]) (W1 := (pW pv pa gv ga ov oa se tv (va_up ta 22 sk) tb nv na)) (bs := []) rfl rfl rfl ?_
  refine XG.br eX2_tryOrders_1 (P := (nI (mkN (lfB (a 54) (hmL (a 54) (S.1 31)).length y) (S.1 31))) = 0) (r := []) rfl (tgt := 9) (by decide) (fun h1 => ?_) (fun h1 => ?_)
  · skip
    have g1 : (mkN (lfB (a 54) (hmL (a 54) (S.1 31)).length y) (S.1 31)) = 0 := (nI_eq (a := (mkN (lfB (a 54) (hmL (a 54) (S.1 31)).length y) (S.1 31))) (b := 0) (by omega) (by omega)).mp h1
    refine XG.blk tX2_tryOrders_ok 5 5 (pc' := 18) (pl' := [some (.ref 0), some (.ref 36), some (.int (nI (mkN (lfB (a 54) (hmL (a 54) (S.1 31)).length y) (S.1 31)))), some (.int (nI (hmL (a 54) (S.1 31)).length)), none]) (st' := [(.ref 7), (.int (nI (hmL (a 54) (S.1 31)).length)), (.ref 17)]) (W1 := (pW pv pa gv ga ov oa se tv (va_up ta 22 sk) tb nv na)) (bs := []) rfl rfl rfl ?_
    refine XG.callV (ro := [17, 18, 7, 8, 9, 10, 11]) (W1 := (hW 162 (pa 9) gv ga)) eX2_tryOrders_18 kl_X2_136 (cc_fetch6 (d - 1) (pa 9) gv ga (hmL (a 54) (S.1 31)).length (by omega) (by omega)) (px_fitS (by omega)) rfl ⟨rfl, by decide, by decide⟩ rfl rfl (Nat.le_of_ble_eq_true rfl) (fun r9 W9 hp9 hl9 => ?_)
    obtain ⟨gv1, ga1, rfl, hE1, rfl⟩ := hp9
    have hN1 : CNt S (prR (vQ v a lv (nI 1)) (aQ a) lv (S.1 23) (S.1 24) (S.1 31) (fun j => (hmL (a 54) (S.1 31)).getD j 0) (a 54) (hmL (a 54) (S.1 31)).length y) gv1 ga1 := hR0.eq hsl2 hE1
    rw [pt_phg]
    show XG _ _ _ _ _ _ [] (pW pv pa gv1 ga1 ov oa se tv (va_up ta 22 sk) tb nv na)
    refine XG.blk tX2_tryOrders_ok 11 2 (pc' := 24) (pl' := [some (.ref 0), some (.ref 36), some (.int (nI (mkN (lfB (a 54) (hmL (a 54) (S.1 31)).length y) (S.1 31)))), some (.int (nI (hmL (a 54) (S.1 31)).length)), some (.int (nI (hmL (a 54) (S.1 31)).length))]) (st' := []) (W1 := (pW pv pa gv1 ga1 ov oa se tv (va_up ta 22 sk) tb nv na)) (bs := []) rfl rfl rfl ?_
    refine px_for (20 - (hmL (a 54) (S.1 31)).length) (fun i => ∀ (gv9 : Nat → Int32) (ga9 : Nat → Nat → Int32) (se9 sk9 : Nat → Int32) (_ : CNt S (snR (vQ v a lv (nI 1)) (aQ a) lv (S.1 23) (S.1 24) (S.1 31) (prR (vQ v a lv (nI 1)) (aQ a) lv (S.1 23) (S.1 24) (S.1 31) (fun j => (hmL (a 54) (S.1 31)).getD j 0) (a 54) (hmL (a 54) (S.1 31)).length y) i) gv9 ga9), XG mX2_tryOrders _ 0 0 24 [some (.ref 0), some (.ref 36), some (.int (nI (mkN (lfB (a 54) (hmL (a 54) (S.1 31)).length y) (S.1 31)))), some (.int (nI (hmL (a 54) (S.1 31)).length)), some (.int (nI ((hmL (a 54) (S.1 31)).length + i)))] [] (pW pv pa gv9 ga9 ov oa se9 tv (va_up ta 22 sk9) tb nv na)) ?_ ?_ 0 (Nat.zero_le _) _ _ _ _ hN1
    · intro gv9 ga9 se9 sk9 hN9
      refine XG.blk tX2_tryOrders_ok 13 2 (pc' := 28) (pl' := [some (.ref 0), some (.ref 36), some (.int (nI (mkN (lfB (a 54) (hmL (a 54) (S.1 31)).length y) (S.1 31)))), some (.int (nI (hmL (a 54) (S.1 31)).length)), some (.int (nI ((hmL (a 54) (S.1 31)).length + (20 - (hmL (a 54) (S.1 31)).length))))]) (st' := [(.int (nI 20)), (.int (nI ((hmL (a 54) (S.1 31)).length + (20 - (hmL (a 54) (S.1 31)).length))))]) (W1 := (pW pv pa gv9 ga9 ov oa se9 tv (va_up ta 22 sk9) tb nv na)) (bs := []) rfl rfl rfl ?_
      refine XG.br eX2_tryOrders_28 (P := (nI 20) ≤ (nI ((hmL (a 54) (S.1 31)).length + (20 - (hmL (a 54) (S.1 31)).length)))) (r := []) rfl (tgt := 74) (by decide) (fun h28 => ?_) (fun h28 => ?_)
      · skip
        have g28 : 20 ≤ ((hmL (a 54) (S.1 31)).length + (20 - (hmL (a 54) (S.1 31)).length)) := (nI_leI (a := 20) (b := ((hmL (a 54) (S.1 31)).length + (20 - (hmL (a 54) (S.1 31)).length))) (by omega) (by omega)).mp h28
        have e31 : (snR (vQ v a lv (nI 1)) (aQ a) lv (S.1 23) (S.1 24) (S.1 31) (prR (vQ v a lv (nI 1)) (aQ a) lv (S.1 23) (S.1 24) (S.1 31) (fun j => (hmL (a 54) (S.1 31)).getD j 0) (a 54) (hmL (a 54) (S.1 31)).length y) (20 - (hmL (a 54) (S.1 31)).length)) 31 = (tbR (vQ v a lv (nI 1)) (aQ a) lv (S.1 23) (S.1 24) (S.1 31) (hmL (a 54) (S.1 31)).length (fun j => (hmL (a 54) (S.1 31)).getD j 0) y (a 54) 20 31) := by
          conv => rhs; rw [show 20 = (hmL (a 54) (S.1 31)).length + (20 - (hmL (a 54) (S.1 31)).length) by omega, tbR_after, tbR_pr]
        have q1 : (gv9 3) = (tbR (vQ v a lv (nI 1)) (aQ a) lv (S.1 23) (S.1 24) (S.1 31) (hmL (a 54) (S.1 31)).length (fun j => (hmL (a 54) (S.1 31)).getD j 0) y (a 54) 20 31) := hN9.2.2.2.1.trans e31
        have q2 : (nv 3) = (a 54 31) := hN.2.2.2.1
        have q3 : ((tbR (vQ v a lv (nI 1)) (aQ a) lv (S.1 23) (S.1 24) (S.1 31) (hmL (a 54) (S.1 31)).length (fun j => (hmL (a 54) (S.1 31)).getD j 0) y (a 54) 20 31) - (a 54 31)) = (tbV v a lv (S.1 23) (S.1 24) (S.1 31) (hmL (a 54) (S.1 31)).length (fun j => (hmL (a 54) (S.1 31)).getD j 0) y) := rfl
        refine XG.blk tX2_tryOrders_ok 35 7 (pc' := 87) (pl' := [some (.ref 0), some (.ref 36), some (.int (nI (mkN (lfB (a 54) (hmL (a 54) (S.1 31)).length y) (S.1 31)))), some (.int (nI (hmL (a 54) (S.1 31)).length)), some (.int (nI ((hmL (a 54) (S.1 31)).length + (20 - (hmL (a 54) (S.1 31)).length))))]) (st' := [(.int ((gv9 3) - (nv 3))), (.ref 0)]) (W1 := (pW pv pa gv9 ga9 ov oa se9 tv (va_up ta 22 sk9) tb nv na)) (bs := []) rfl rfl rfl ?_
        simp only [q1, q2, q3]
        refine XG.callV0 eX2_tryOrders_87 kl_X2_153 (cc_weighOrder (d - 1) pv pa gv9 ga9 ov oa se9 tv (va_up ta 22 sk9) tb nv na (tbV v a lv (S.1 23) (S.1 24) (S.1 31) (hmL (a 54) (S.1 31)).length (fun j => (hmL (a 54) (S.1 31)).getD j 0) y) (by omega)) (px_fitS (by omega)) rfl rfl rfl (Nat.le_of_ble_eq_true rfl) (fun r9 W9 hp9 hl9 => ?_)
        obtain ⟨pv2, pa2, rfl, hw1, hw2, ⟨hw3, hw4⟩, rfl⟩ := hp9
        refine XS.vret eX2_tryOrders_90 rfl ?_
        refine ⟨_, _, _, _, _, _, rfl, ⟨fun b hb => by rw [hw3]; exact hQ.1 b hb, fun i hi => by rw [hw4]; exact hQ.2 i hi⟩, ?_, rfl⟩
        rw [Nat.pow_zero, Nat.mul_one] at hWo ⊢
        exact or_step hX hy hok hWo hQ.1 rfl hw1 hw2
      · exfalso
        have g28 : ¬ 20 ≤ ((hmL (a 54) (S.1 31)).length + (20 - (hmL (a 54) (S.1 31)).length)) := (fun z => h28 ((nI_leI (a := 20) (b := ((hmL (a 54) (S.1 31)).length + (20 - (hmL (a 54) (S.1 31)).length))) (by omega) (by omega)).mpr z))
        omega
    · intro i hi ihi gv9 ga9 se9 sk9 hN9
      refine XG.blk tX2_tryOrders_ok 13 2 (pc' := 28) (pl' := [some (.ref 0), some (.ref 36), some (.int (nI (mkN (lfB (a 54) (hmL (a 54) (S.1 31)).length y) (S.1 31)))), some (.int (nI (hmL (a 54) (S.1 31)).length)), some (.int (nI ((hmL (a 54) (S.1 31)).length + i)))]) (st' := [(.int (nI 20)), (.int (nI ((hmL (a 54) (S.1 31)).length + i)))]) (W1 := (pW pv pa gv9 ga9 ov oa se9 tv (va_up ta 22 sk9) tb nv na)) (bs := []) rfl rfl rfl ?_
      refine XG.br eX2_tryOrders_28 (P := (nI 20) ≤ (nI ((hmL (a 54) (S.1 31)).length + i))) (r := []) rfl (tgt := 74) (by decide) (fun h28 => ?_) (fun h28 => ?_)
      · exfalso
        have g28 : 20 ≤ ((hmL (a 54) (S.1 31)).length + i) := (nI_leI (a := 20) (b := ((hmL (a 54) (S.1 31)).length + i)) (by omega) (by omega)).mp h28
        omega
      · skip
        have g28 : ¬ 20 ≤ ((hmL (a 54) (S.1 31)).length + i) := (fun z => h28 ((nI_leI (a := 20) (b := ((hmL (a 54) (S.1 31)).length + i)) (by omega) (by omega)).mpr z))
        refine XG.blk tX2_tryOrders_ok 16 4 (pc' := 39) (pl' := [some (.ref 0), some (.ref 36), some (.int (nI (mkN (lfB (a 54) (hmL (a 54) (S.1 31)).length y) (S.1 31)))), some (.int (nI (hmL (a 54) (S.1 31)).length)), some (.int (nI ((hmL (a 54) (S.1 31)).length + i)))]) (st' := [(.ref 7), (.ref 19)]) (W1 := (pW pv pa gv9 ga9 ov oa se9 tv (va_up ta 22 sk9) tb nv na)) (bs := []) rfl rfl rfl ?_
        refine XG.callV (ro := [19, 20, 21, 22, 23, 24, 25, 26, 27, 28, 29, 30, 31, 32, 33, 34, 35, 7, 8, 9, 10, 11]) (W1 := (rW se9 tv (va_up ta 22 sk9) tb gv9 ga9)) eX2_tryOrders_39 kl_X2_139 (cc_someAre (d - 1) se9 tv (va_up ta 22 sk9) tb gv9 ga9 S lv (aQ a) hX (snR (vQ v a lv (nI 1)) (aQ a) lv (S.1 23) (S.1 24) (S.1 31) (prR (vQ v a lv (nI 1)) (aQ a) lv (S.1 23) (S.1 24) (S.1 31) (fun j => (hmL (a 54) (S.1 31)).getD j 0) (a 54) (hmL (a 54) (S.1 31)).length y) i) hN9 ) (px_fitS (by omega)) rfl ⟨rfl, by decide, by decide⟩ rfl rfl (Nat.le_of_ble_eq_true rfl) (fun r9 W9 hp9 hl9 => ?_)
        obtain ⟨rfl, rfl⟩ := hp9
        rw [pt_prg]
        show XG _ _ _ _ _ _ [(.int (if (findN (onW (snR (vQ v a lv (nI 1)) (aQ a) lv (S.1 23) (S.1 24) (S.1 31) (prR (vQ v a lv (nI 1)) (aQ a) lv (S.1 23) (S.1 24) (S.1 31) (fun j => (hmL (a 54) (S.1 31)).getD j 0) (a 54) (hmL (a 54) (S.1 31)).length y) i)) (S.1 31) 0).isSome = true then 1 else 0))] (pW pv pa gv9 ga9 ov oa se9 tv (va_up ta 22 sk9) tb nv na)
        refine XG.br eX2_tryOrders_42 (P := (if (findN (onW (snR (vQ v a lv (nI 1)) (aQ a) lv (S.1 23) (S.1 24) (S.1 31) (prR (vQ v a lv (nI 1)) (aQ a) lv (S.1 23) (S.1 24) (S.1 31) (fun j => (hmL (a 54) (S.1 31)).getD j 0) (a 54) (hmL (a 54) (S.1 31)).length y) i)) (S.1 31) 0).isSome = true then 1 else 0) = 0) (r := []) rfl (tgt := 74) (by decide) (fun h42 => ?_) (fun h42 => ?_)
        · skip
          have hst := off_stays (hGs.hours hX.2.1 hX.2.2.1 (vQ v a lv (nI 1)) (aQ a) lv i).1 hsp2 (by rw [one_ne] at h42; exact h42)
          have e31 : (snR (vQ v a lv (nI 1)) (aQ a) lv (S.1 23) (S.1 24) (S.1 31) (prR (vQ v a lv (nI 1)) (aQ a) lv (S.1 23) (S.1 24) (S.1 31) (fun j => (hmL (a 54) (S.1 31)).getD j 0) (a 54) (hmL (a 54) (S.1 31)).length y) i) 31 = (tbR (vQ v a lv (nI 1)) (aQ a) lv (S.1 23) (S.1 24) (S.1 31) (hmL (a 54) (S.1 31)).length (fun j => (hmL (a 54) (S.1 31)).getD j 0) y (a 54) 20 31) := by
            rw [show 20 = (hmL (a 54) (S.1 31)).length + (20 - (hmL (a 54) (S.1 31)).length) by omega, tbR_after, tbR_pr, show 20 - (hmL (a 54) (S.1 31)).length = i + (20 - (hmL (a 54) (S.1 31)).length - i) by omega, ← sn_add]
            exact (sn_31 hX.2.1 hX.2.2.1 hst _).symm
          have q4 : (gv9 3) = (tbR (vQ v a lv (nI 1)) (aQ a) lv (S.1 23) (S.1 24) (S.1 31) (hmL (a 54) (S.1 31)).length (fun j => (hmL (a 54) (S.1 31)).getD j 0) y (a 54) 20 31) := hN9.2.2.2.1.trans e31
          have q5 : (nv 3) = (a 54 31) := hN.2.2.2.1
          have q6 : ((tbR (vQ v a lv (nI 1)) (aQ a) lv (S.1 23) (S.1 24) (S.1 31) (hmL (a 54) (S.1 31)).length (fun j => (hmL (a 54) (S.1 31)).getD j 0) y (a 54) 20 31) - (a 54 31)) = (tbV v a lv (S.1 23) (S.1 24) (S.1 31) (hmL (a 54) (S.1 31)).length (fun j => (hmL (a 54) (S.1 31)).getD j 0) y) := rfl
          refine XG.blk tX2_tryOrders_ok 35 7 (pc' := 87) (pl' := [some (.ref 0), some (.ref 36), some (.int (nI (mkN (lfB (a 54) (hmL (a 54) (S.1 31)).length y) (S.1 31)))), some (.int (nI (hmL (a 54) (S.1 31)).length)), some (.int (nI ((hmL (a 54) (S.1 31)).length + i)))]) (st' := [(.int ((gv9 3) - (nv 3))), (.ref 0)]) (W1 := (pW pv pa gv9 ga9 ov oa se9 tv (va_up ta 22 sk9) tb nv na)) (bs := []) rfl rfl rfl ?_
          simp only [q4, q5, q6]
          refine XG.callV0 eX2_tryOrders_87 kl_X2_153 (cc_weighOrder (d - 1) pv pa gv9 ga9 ov oa se9 tv (va_up ta 22 sk9) tb nv na (tbV v a lv (S.1 23) (S.1 24) (S.1 31) (hmL (a 54) (S.1 31)).length (fun j => (hmL (a 54) (S.1 31)).getD j 0) y) (by omega)) (px_fitS (by omega)) rfl rfl rfl (Nat.le_of_ble_eq_true rfl) (fun r9 W9 hp9 hl9 => ?_)
          obtain ⟨pv2, pa2, rfl, hw1, hw2, ⟨hw3, hw4⟩, rfl⟩ := hp9
          refine XS.vret eX2_tryOrders_90 rfl ?_
          refine ⟨_, _, _, _, _, _, rfl, ⟨fun b hb => by rw [hw3]; exact hQ.1 b hb, fun i hi => by rw [hw4]; exact hQ.2 i hi⟩, ?_, rfl⟩
          rw [Nat.pow_zero, Nat.mul_one] at hWo ⊢
          exact or_step hX hy hok hWo hQ.1 rfl hw1 hw2
        · skip
          have q7 : (tv 6) = (a 37 lv) := hX.sd.1.trans hX.sd.2.2.symm
          refine XG.blk tX2_tryOrders_ok 22 10 (pc' := 65) (pl' := [some (.ref 0), some (.ref 36), some (.int (nI (mkN (lfB (a 54) (hmL (a 54) (S.1 31)).length y) (S.1 31)))), some (.int (nI (hmL (a 54) (S.1 31)).length)), some (.int (nI ((hmL (a 54) (S.1 31)).length + i)))]) (st' := [(.int (tv 6)), (.int (nI 1)), (.int (nI 1)), (.ref 7), (.ref 19)]) (W1 := (pW pv pa gv9 ga9 ov oa se9 tv (va_up ta 22 sk9) tb nv na)) (bs := []) rfl rfl rfl ?_
          simp only [q7]
          refine XG.callV (ro := [19, 20, 21, 22, 23, 24, 25, 26, 27, 28, 29, 30, 31, 32, 33, 34, 35, 7, 8, 9, 10, 11]) (W1 := (rW se9 tv (va_up ta 22 sk9) tb gv9 ga9)) eX2_tryOrders_65 kl_X2_146 (cc_passHours (d - 1) se9 tv (va_up ta 22 sk9) tb gv9 ga9 S lv (aQ a) hX (snR (vQ v a lv (nI 1)) (aQ a) lv (S.1 23) (S.1 24) (S.1 31) (prR (vQ v a lv (nI 1)) (aQ a) lv (S.1 23) (S.1 24) (S.1 31) (fun j => (hmL (a 54) (S.1 31)).getD j 0) (a 54) (hmL (a 54) (S.1 31)).length y) i) hN9 (vQ v a lv (nI 1)) 1 (H + (hmL (a 54) (S.1 31)).length + i) (by omega) (hGs.hours hX.2.1 hX.2.2.1 (vQ v a lv (nI 1)) (aQ a) lv i) (by omega) (by omega)) (px_fitS (by omega)) rfl ⟨rfl, by decide, by decide⟩ rfl rfl (Nat.le_of_ble_eq_true rfl) (fun r9 W9 hp9 hl9 => ?_)
          obtain ⟨se2, sk2, gv2, ga2, rfl, hN2, rfl⟩ := hp9
          rw [pt_prg]
          show XG _ _ _ _ _ _ [] (pW pv pa gv2 ga2 ov oa se2 tv (va_up ta 22 sk2) tb nv na)
          have q8 : ((nI ((hmL (a 54) (S.1 31)).length + i)) + (nI 1)) = (nI (((hmL (a 54) (S.1 31)).length + i) + 1)) := px_eadd rfl rfl
          refine XG.blk tX2_tryOrders_ok 33 1 (pc' := 71) (pl' := [some (.ref 0), some (.ref 36), some (.int (nI (mkN (lfB (a 54) (hmL (a 54) (S.1 31)).length y) (S.1 31)))), some (.int (nI (hmL (a 54) (S.1 31)).length)), some (.int ((nI ((hmL (a 54) (S.1 31)).length + i)) + (nI 1)))]) (st' := []) (W1 := (pW pv pa gv2 ga2 ov oa se2 tv (va_up ta 22 sk2) tb nv na)) (bs := []) rfl rfl rfl ?_
          simp only [q8]
          refine XG.goto eX2_tryOrders_71 (tgt := 24) (by decide) ?_
          exact ihi _ _ _ _ (by have h := hN2; rw [sn_1] at h; exact h)
  · exfalso
    have g1 : ¬ (mkN (lfB (a 54) (hmL (a 54) (S.1 31)).length y) (S.1 31)) = 0 := (fun z => h1 ((nI_eq (a := (mkN (lfB (a 54) (hmL (a 54) (S.1 31)).length y) (S.1 31))) (b := 0) (by omega) (by omega)).mpr z))
    omega
set_option maxHeartbeats 1000000 in
theorem cc_tryOrdersS (d : Nat) (pv : Nat → Int32) (pa : Nat → Nat → Int32) (gv : Nat → Int32) (ga : Nat → Nat → Int32) (ov : Nat → Int32) (oa : Nat → Nat → Int32) (se : Nat → Int32) (tv : Nat → Int32) (ta : Nat → Nat → Int32) (tb : Nat → Nat → Int64) (nv : Nat → Int32) (na : Nat → Nat → Int32) (S : SD) (lv : Nat) (v : Nat → Int32) (a : Nat → Nat → Int32) (hX : CX S lv (aQ a) tv ta) (hN : CNt S (a 54) nv na) (sk : Nat → Int32) (k : Nat) (s y : Nat) (hs : s + (k + 1) = (hmL (a 54) (S.1 31)).length) (hcb : cB (lfB (a 54) s y) (S.1 31) + s = (hmL (a 54) (S.1 31)).length) (hQ : orQ S v a lv (hmL (a 54) (S.1 31)) s y pa) (x : Int32) (hWo : orS x v a lv (S.1 23) (S.1 24) (S.1 31) (hmL (a 54) (S.1 31)) (y * 5 ^ (k + 1)) pv pa) (H : Nat) (hGR : GR S H (a 54)) (hH : H ≤ 50000) (ih : ∀ (pv8 : Nat → Int32) (pa8 : Nat → Nat → Int32) (gv8 : Nat → Int32) (ga8 : Nat → Nat → Int32) (se8 sk8 : Nat → Int32) (c : Nat), c < S.1 31 → lfB (a 54) s y c = true → orQ S v a lv (hmL (a 54) (S.1 31)) (s + 1) (5 * y + (jx (a 54) c)) pa8 → orS x v a lv (S.1 23) (S.1 24) (S.1 31) (hmL (a 54) (S.1 31)) ((5 * y + (jx (a 54) c)) * 5 ^ k) pv8 pa8 → Con mX2_tryOrders (d - 1) [.ref 0, .ref 36, .int (nI (mkN (lfB (a 54) (s + 1) (5 * y + (jx (a 54) c))) (S.1 31))), .int (nI (s + 1))] (pW pv8 pa8 gv8 ga8 ov oa se8 tv (va_up ta 22 sk8) tb nv na) (fun r W' => ∃ pv' pa' gv' ga' se' sk', W' = pW pv' pa' gv' ga' ov oa se' tv (va_up ta 22 sk') tb nv na ∧ orQ S v a lv (hmL (a 54) (S.1 31)) (s + 1) (5 * y + (jx (a 54) c)) pa' ∧ orS x v a lv (S.1 23) (S.1 24) (S.1 31) (hmL (a 54) (S.1 31)) ((5 * y + (jx (a 54) c) + 1) * 5 ^ k) pv' pa' ∧ r = none)) (hd : 6 ≤ d) : Con mX2_tryOrders d [.ref 0, .ref 36, .int (nI (mkN (lfB (a 54) s y) (S.1 31))), .int (nI s)] (pW pv pa gv ga ov oa se tv (va_up ta 22 sk) tb nv na) (fun r W' => ∃ pv' pa' gv' ga' se' sk', W' = pW pv' pa' gv' ga' ov oa se' tv (va_up ta 22 sk') tb nv na ∧ orQ S v a lv (hmL (a 54) (S.1 31)) s y pa' ∧ orS x v a lv (S.1 23) (S.1 24) (S.1 31) (hmL (a 54) (S.1 31)) ((y + 1) * 5 ^ (k + 1)) pv' pa' ∧ r = none) := by
  obtain ⟨hcr, hcr2⟩ := hX.cr
  obtain ⟨hsl, hsl2⟩ := hX.sl
  obtain ⟨hsp, hsp1, hsp2⟩ := hX.sp
  have hL5 : (hmL (a 54) (S.1 31)).length ≤ 5 := Nat.le_trans (hmL_len _ _) hcr2
  have hM : (mkN (lfB (a 54) s y) (S.1 31)) < 64 := mkN_64 (by omega)
  have hM0 : ¬ (mkN (lfB (a 54) s y) (S.1 31)) = 0 := fun z => by have := mkN_z.mp z; omega
  have hy0 : y * 5 ^ (k + 1) = (5 * y + jx (a 54) (min 0 (S.1 31))) * 5 ^ k := by rw [Nat.zero_min, show jx (a 54) 0 = 0 from rfl, Nat.pow_succ', ← Nat.mul_assoc, Nat.mul_comm y 5, Nat.add_zero]
  have hy1 : (y + 1) * 5 ^ (k + 1) = (5 * y + 5) * 5 ^ k := by rw [Nat.pow_succ', ← Nat.mul_assoc, Nat.mul_comm (y + 1) 5, Nat.mul_add]
  have hGs := prR_GR hX.2.1 hX.2.2.1 (vQ v a lv (nI 1)) (aQ a) lv (hmL_5 (a 54) hcr2) hGR s y
  rw [hy0] at hWo
  refine Con.of (by decide) (Nat.le_of_ble_eq_true rfl) ?_
  refine XG.blk tX2_tryOrders_ok 0 1 (pc' := 1) (pl' := [some (.ref 0), some (.ref 36), some (.int (nI (mkN (lfB (a 54) s y) (S.1 31)))), some (.int (nI s)), none]) (st' := [(.int (nI (mkN (lfB (a 54) s y) (S.1 31))))]) (W1 := (pW pv pa gv ga ov oa se tv (va_up ta 22 sk) tb nv na)) (bs := []) rfl rfl rfl ?_
  refine XG.br eX2_tryOrders_1 (P := (nI (mkN (lfB (a 54) s y) (S.1 31))) = 0) (r := []) rfl (tgt := 9) (by decide) (fun h1 => ?_) (fun h1 => ?_)
  · exfalso
    have g1 : (mkN (lfB (a 54) s y) (S.1 31)) = 0 := (nI_eq (a := (mkN (lfB (a 54) s y) (S.1 31))) (b := 0) (by omega) (by omega)).mp h1
    omega
  · skip
    have g1 : ¬ (mkN (lfB (a 54) s y) (S.1 31)) = 0 := (fun z => h1 ((nI_eq (a := (mkN (lfB (a 54) s y) (S.1 31))) (b := 0) (by omega) (by omega)).mpr z))
    refine XG.blk tX2_tryOrders_ok 2 2 (pc' := 6) (pl' := [some (.ref 0), some (.ref 36), some (.int (nI (mkN (lfB (a 54) s y) (S.1 31)))), some (.int (nI s)), none]) (st' := [(.int (nI 5)), (.int (nI s))]) (W1 := (pW pv pa gv ga ov oa se tv (va_up ta 22 sk) tb nv na)) (bs := []) rfl rfl rfl ?_
    refine XG.br eX2_tryOrders_6 (P := (nI s) < (nI 5)) (r := []) rfl (tgt := 91) (by decide) (fun h6 => ?_) (fun h6 => ?_)
    · skip
      have g6 : s < 5 := (nI_ltI (a := s) (b := 5) (by omega) (by omega)).mp h6
      refine XG.blk tX2_tryOrders_ok 44 2 (pc' := 94) (pl' := [some (.ref 0), some (.ref 36), some (.int (nI (mkN (lfB (a 54) s y) (S.1 31)))), some (.int (nI s)), some (.int (nI 0))]) (st' := []) (W1 := (pW pv pa gv ga ov oa se tv (va_up ta 22 sk) tb nv na)) (bs := []) rfl rfl rfl ?_
      refine px_for 5 (fun c => ∀ (pv9 : Nat → Int32) (pa9 : Nat → Nat → Int32) (gv9 : Nat → Int32) (ga9 : Nat → Nat → Int32) (se9 sk9 : Nat → Int32) (_ : orQ S v a lv (hmL (a 54) (S.1 31)) s y pa9) (_ : orS x v a lv (S.1 23) (S.1 24) (S.1 31) (hmL (a 54) (S.1 31)) ((5 * y + jx (a 54) (min c (S.1 31))) * 5 ^ k) pv9 pa9), XG mX2_tryOrders _ 0 0 94 [some (.ref 0), some (.ref 36), some (.int (nI (mkN (lfB (a 54) s y) (S.1 31)))), some (.int (nI s)), some (.int (nI c))] [] (pW pv9 pa9 gv9 ga9 ov oa se9 tv (va_up ta 22 sk9) tb nv na)) ?_ ?_ 0 (Nat.zero_le _) _ _ _ _ _ _ hQ hWo
      · intro pv9 pa9 gv9 ga9 se9 sk9 hQ9 hW9
        refine XG.blk tX2_tryOrders_ok 46 2 (pc' := 97) (pl' := [some (.ref 0), some (.ref 36), some (.int (nI (mkN (lfB (a 54) s y) (S.1 31)))), some (.int (nI s)), some (.int (nI 5))]) (st' := [(.int (nI 5)), (.int (nI 5))]) (W1 := (pW pv9 pa9 gv9 ga9 ov oa se9 tv (va_up ta 22 sk9) tb nv na)) (bs := []) rfl rfl rfl ?_
        refine XG.br eX2_tryOrders_97 (P := (nI 5) ≤ (nI 5)) (r := []) rfl (tgt := 201) (by decide) (fun h97 => ?_) (fun h97 => ?_)
        · skip
          have g97 : 5 ≤ 5 := (nI_leI (a := 5) (b := 5) (by omega) (by omega)).mp h97
          refine XS.vret eX2_tryOrders_201 rfl ?_
          refine ⟨_, _, _, _, _, _, rfl, hQ9, ?_, rfl⟩
          rw [hy1]
          unfold orS
          rw [or_top hL5 hs]
          rw [show min 5 (S.1 31) = S.1 31 by omega] at hW9
          exact hW9
        · exfalso
          have g97 : ¬ 5 ≤ 5 := (fun z => h97 ((nI_leI (a := 5) (b := 5) (by omega) (by omega)).mpr z))
          omega
      · intro c hc ihc pv9 pa9 gv9 ga9 se9 sk9 hQ9 hW9
        have hW9 := hW9
        refine XG.blk tX2_tryOrders_ok 46 2 (pc' := 97) (pl' := [some (.ref 0), some (.ref 36), some (.int (nI (mkN (lfB (a 54) s y) (S.1 31)))), some (.int (nI s)), some (.int (nI c))]) (st' := [(.int (nI 5)), (.int (nI c))]) (W1 := (pW pv9 pa9 gv9 ga9 ov oa se9 tv (va_up ta 22 sk9) tb nv na)) (bs := []) rfl rfl rfl ?_
        refine XG.br eX2_tryOrders_97 (P := (nI 5) ≤ (nI c)) (r := []) rfl (tgt := 201) (by decide) (fun h97 => ?_) (fun h97 => ?_)
        · exfalso
          have g97 : 5 ≤ c := (nI_leI (a := 5) (b := c) (by omega) (by omega)).mp h97
          omega
        · skip
          have g97 : ¬ 5 ≤ c := (fun z => h97 ((nI_leI (a := 5) (b := c) (by omega) (by omega)).mpr z))
          refine XG.blk tX2_tryOrders_ok 49 6 (pc' := 107) (pl' := [some (.ref 0), some (.ref 36), some (.int (nI (mkN (lfB (a 54) s y) (S.1 31)))), some (.int (nI s)), some (.int (nI c))]) (st' := [(.int (nI 1)), (.int (((nI (mkN (lfB (a 54) s y) (S.1 31))) >>> ((nI c) &&& 31)) &&& (nI 1)))]) (W1 := (pW pv9 pa9 gv9 ga9 ov oa se9 tv (va_up ta 22 sk9) tb nv na)) (bs := []) rfl rfl rfl ?_
          refine XG.br eX2_tryOrders_107 (P := ¬ (((nI (mkN (lfB (a 54) s y) (S.1 31))) >>> ((nI c) &&& 31)) &&& (nI 1)) = (nI 1)) (r := []) rfl (tgt := 195) (by decide) (fun h107 => ?_) (fun h107 => ?_)
          · skip
            have q1 : ((nI c) + (nI 1)) = (nI (c + 1)) := px_eadd rfl rfl
            refine XG.blk tX2_tryOrders_ok 105 1 (pc' := 198) (pl' := [some (.ref 0), some (.ref 36), some (.int (nI (mkN (lfB (a 54) s y) (S.1 31)))), some (.int (nI s)), some (.int ((nI c) + (nI 1)))]) (st' := []) (W1 := (pW pv9 pa9 gv9 ga9 ov oa se9 tv (va_up ta 22 sk9) tb nv na)) (bs := []) rfl rfl rfl ?_
            simp only [q1]
            refine XG.goto eX2_tryOrders_198 (tgt := 94) (by decide) ?_
            refine ihc _ _ _ _ _ _ hQ9 ?_
            unfold orS
            rw [or_no hcr2 hs (fun z => h107 ((bitT' hM (show c < 6 by omega)).mpr (by rw [mkN_bit, decide_eq_true z.1, z.2]; rfl)))]
            exact hW9
          · skip
            have h107 := Decidable.not_not.mp h107
            have hbit := (bitT' hM (show c < 6 by omega)).mp h107
            rw [mkN_bit] at hbit
            have hcr9 : c < S.1 31 := by by_cases z : c < S.1 31; exact z; rw [decide_eq_false z] at hbit; cases hbit
            have hlf : lfB (a 54) s y c = true := by rw [decide_eq_true hcr9, Bool.true_and] at hbit; exact hbit
            have hhome : a 54 (18 + c) = -2 := by have h := hlf; unfold lfB at h; simp at h; exact h.1
            have hjD := hmL_D hhome hcr9
            have hj5 : (jx (a 54) c) < 5 := by omega
            have hR0 : CNt S (prR (vQ v a lv (nI 1)) (aQ a) lv (S.1 23) (S.1 24) (S.1 31) (fun j => (hmL (a 54) (S.1 31)).getD j 0) (a 54) s y) (shv (pa9 9) s) (sha (pa9 9) s) := by
              have h := hQ9.2 s (Nat.le_refl _)
              rw [Nat.sub_self, Nat.pow_zero, Nat.div_one] at h; exact h
            refine XG.blk tX2_tryOrders_ok 56 5 (pc' := 119) (pl' := [some (.ref 0), some (.ref 36), some (.int (nI (mkN (lfB (a 54) s y) (S.1 31)))), some (.int (nI s)), some (.int (nI c))]) (st' := [(.ref 7), (.int (nI s)), (.ref 17)]) (W1 := (pW pv9 pa9 gv9 ga9 ov oa se9 tv (va_up ta 22 sk9) tb nv na)) (bs := []) rfl rfl rfl ?_
            refine XG.callV (ro := [17, 18, 7, 8, 9, 10, 11]) (W1 := (hW 162 (pa9 9) gv9 ga9)) eX2_tryOrders_119 kl_X2_136 (cc_fetch6 (d - 1) (pa9 9) gv9 ga9 s (by omega) (by omega)) (px_fitS (by omega)) rfl ⟨rfl, by decide, by decide⟩ rfl rfl (Nat.le_of_ble_eq_true rfl) (fun r9 W9 hp9 hl9 => ?_)
            obtain ⟨gv1, ga1, rfl, hE1, rfl⟩ := hp9
            have hN1 : CNt S (prR (vQ v a lv (nI 1)) (aQ a) lv (S.1 23) (S.1 24) (S.1 31) (fun j => (hmL (a 54) (S.1 31)).getD j 0) (a 54) s y) gv1 ga1 := hR0.eq hsl2 hE1
            rw [pt_phg]
            show XG _ _ _ _ _ _ [] (pW pv9 pa9 gv1 ga1 ov oa se9 tv (va_up ta 22 sk9) tb nv na)
            have q2 : (nI c).toNatClampNeg = c := nI_clamp (by omega)
            refine XG.blk tX2_tryOrders_ok 62 6 (pc' := 134) (pl' := [some (.ref 0), some (.ref 36), some (.int (nI (mkN (lfB (a 54) s y) (S.1 31)))), some (.int (nI s)), some (.int (nI c))]) (st' := []) (W1 := (pW pv9 pa9 gv1 (va_up ga1 7 (upd (ga1 7) (nI c).toNatClampNeg (-3))) ov oa se9 tv (va_up ta 22 sk9) tb nv na)) (bs := [px_vb (nI c) 5]) rfl rfl (by (try simp only [q2]); exact (px_all (px_vbN (by omega) (by decide)) rfl)) ?_
            simp only [q2]
            have hN7 := hN1.wh (c := c) (by omega) (-3) hsl2
            have q3 : (tv 6) = (a 37 lv) := hX.sd.1.trans hX.sd.2.2.symm
            refine XG.blk tX2_tryOrders_ok 68 10 (pc' := 154) (pl' := [some (.ref 0), some (.ref 36), some (.int (nI (mkN (lfB (a 54) s y) (S.1 31)))), some (.int (nI s)), some (.int (nI c))]) (st' := [(.int (tv 6)), (.int (nI 1)), (.int (nI 1)), (.ref 7), (.ref 19)]) (W1 := (pW pv9 pa9 gv1 (va_up ga1 7 (upd (ga1 7) c (-3))) ov oa se9 tv (va_up ta 22 sk9) tb nv na)) (bs := []) rfl rfl rfl ?_
            simp only [q3]
            refine XG.callV (ro := [19, 20, 21, 22, 23, 24, 25, 26, 27, 28, 29, 30, 31, 32, 33, 34, 35, 7, 8, 9, 10, 11]) (W1 := (rW se9 tv (va_up ta 22 sk9) tb gv1 (va_up ga1 7 (upd (ga1 7) c (-3))))) eX2_tryOrders_154 kl_X2_146 (cc_passHours (d - 1) se9 tv (va_up ta 22 sk9) tb gv1 (va_up ga1 7 (upd (ga1 7) c (-3))) S lv (aQ a) hX (upd (prR (vQ v a lv (nI 1)) (aQ a) lv (S.1 23) (S.1 24) (S.1 31) (fun j => (hmL (a 54) (S.1 31)).getD j 0) (a 54) s y) (18 + c) (-3)) hN7 (vQ v a lv (nI 1)) 1 (H + s) (by omega) (hGs.up (by omega) (Or.inl rfl)) (by omega) (by omega)) (px_fitS (by omega)) rfl ⟨rfl, by decide, by decide⟩ rfl rfl (Nat.le_of_ble_eq_true rfl) (fun r9 W9 hp9 hl9 => ?_)
            obtain ⟨se2, sk2, gv2, ga2, rfl, hN2, rfl⟩ := hp9
            rw [pt_prg]
            show XG _ _ _ _ _ _ [] (pW pv9 pa9 gv2 ga2 ov oa se2 tv (va_up ta 22 sk2) tb nv na)
            have q4 : ((nI s) + (nI 1)) = (nI (s + 1)) := px_eadd rfl rfl
            refine XG.blk tX2_tryOrders_ok 79 7 (pc' := 168) (pl' := [some (.ref 0), some (.ref 36), some (.int (nI (mkN (lfB (a 54) s y) (S.1 31)))), some (.int (nI s)), some (.int (nI c))]) (st' := [(.ref 7), (.int ((nI s) + (nI 1))), (.ref 17)]) (W1 := (pW pv9 pa9 gv2 ga2 ov oa se2 tv (va_up ta 22 sk2) tb nv na)) (bs := []) rfl rfl rfl ?_
            simp only [q4]
            refine XG.callV (ro := [17, 18, 7, 8, 9, 10, 11]) (W1 := (hW 162 (pa9 9) gv2 ga2)) eX2_tryOrders_168 kl_X2_124 (cc_store6 (d - 1) (pa9 9) gv2 ga2 (s + 1) (by omega) (by omega)) (px_fitS (by omega)) rfl ⟨rfl, by decide, by decide⟩ rfl rfl (Nat.le_of_ble_eq_true rfl) (fun r9 W9 hp9 hl9 => ?_)
            obtain ⟨rfl, rfl⟩ := hp9
            rw [pt_phg]
            show XG _ _ _ _ _ _ [] (pW pv9 (va_up pa9 9 (stF (pa9 9) (s + 1) gv2 ga2)) gv2 ga2 ov oa se2 tv (va_up ta 22 sk2) tb nv na)
            have q5 : (nI s).toNatClampNeg = s := nI_clamp (by omega)
            refine XG.blk tX2_tryOrders_ok 87 5 (pc' := 179) (pl' := [some (.ref 0), some (.ref 36), some (.int (nI (mkN (lfB (a 54) s y) (S.1 31)))), some (.int (nI s)), some (.int (nI c))]) (st' := []) (W1 := (pW pv9 (va_up (va_up pa9 9 (stF (pa9 9) (s + 1) gv2 ga2)) 13 (upd (pa9 13) (nI s).toNatClampNeg (nI c))) gv2 ga2 ov oa se2 tv (va_up ta 22 sk2) tb nv na)) (bs := [px_vb (nI s) 5]) rfl rfl (by (try simp only [q5]); exact (px_all (px_vbN (by omega) (by decide)) rfl)) ?_
            simp only [q5]
            have hQ7 := hQ9.down hsl2 hj5 hjD.1 (show CNt S (hourF (vQ v a lv (nI 1)) (aQ a) lv (S.1 23) (S.1 24) (S.1 31) (upd (prR (vQ v a lv (nI 1)) (aQ a) lv (S.1 23) (S.1 24) (S.1 31) (fun j => (hmL (a 54) (S.1 31)).getD j 0) (a 54) s y) (18 + c) (-3))) _ _ from hN2)
            have q6 : ((nI (mkN (lfB (a 54) s y) (S.1 31))) &&& (((nI 1) <<< ((nI c) &&& 31)) ^^^ (-1))) = (nI (mkN (lfB (a 54) (s + 1) (5 * y + (jx (a 54) c))) (S.1 31))) := (ms_al hM (by omega)).trans (congrArg nI (lf_rm hcr2 hcr9 hlf).2)
            have q7 : ((nI s) + (nI 1)) = (nI (s + 1)) := px_eadd rfl rfl
            refine XG.blk tX2_tryOrders_ok 92 12 (pc' := 192) (pl' := [some (.ref 0), some (.ref 36), some (.int (nI (mkN (lfB (a 54) s y) (S.1 31)))), some (.int (nI s)), some (.int (nI c))]) (st' := [(.int ((nI s) + (nI 1))), (.int ((nI (mkN (lfB (a 54) s y) (S.1 31))) &&& (((nI 1) <<< ((nI c) &&& 31)) ^^^ (-1)))), (.ref 36), (.ref 0)]) (W1 := (pW pv9 (va_up (va_up pa9 9 (stF (pa9 9) (s + 1) gv2 ga2)) 13 (upd (pa9 13) s (nI c))) gv2 ga2 ov oa se2 tv (va_up ta 22 sk2) tb nv na)) (bs := []) rfl rfl rfl ?_
            simp only [q6, q7]
            refine XG.callV0 eX2_tryOrders_192 kl_X2_132 (ih _ _ _ _ _ _ c hcr9 hlf hQ7 (by rw [show min c (S.1 31) = c by omega] at hW9; exact hW9)) (px_fitS (by omega)) rfl rfl rfl (Nat.le_of_ble_eq_true rfl) (fun r9 W9 hp9 hl9 => ?_)
            obtain ⟨pv8, pa8, gv8, ga8, se8, sk8, rfl, hQ8, hW8, rfl⟩ := hp9
            have q8 : ((nI c) + (nI 1)) = (nI (c + 1)) := px_eadd rfl rfl
            refine XG.blk tX2_tryOrders_ok 105 1 (pc' := 198) (pl' := [some (.ref 0), some (.ref 36), some (.int (nI (mkN (lfB (a 54) s y) (S.1 31)))), some (.int (nI s)), some (.int ((nI c) + (nI 1)))]) (st' := []) (W1 := (pW pv8 pa8 gv8 ga8 ov oa se8 tv (va_up ta 22 sk8) tb nv na)) (bs := []) rfl rfl rfl ?_
            simp only [q8]
            refine XG.goto eX2_tryOrders_198 (tgt := 94) (by decide) ?_
            refine ihc _ _ _ _ _ _ (hQ8.back hj5) ?_
            have e := hmL_s (a 54) c
            rw [if_pos hhome] at e
            rw [show min (c + 1) (S.1 31) = c + 1 by omega, show jx (a 54) (c + 1) = jx (a 54) c + 1 by unfold jx; rw [e, List.length_append]; rfl, ← Nat.add_assoc]
            exact hW8
    · exfalso
      have g6 : ¬ s < 5 := (fun z => h6 ((nI_ltI (a := s) (b := 5) (by omega) (by omega)).mpr z))
      omega
theorem cc_tryOrders (ov : Nat → Int32) (oa : Nat → Nat → Int32) (tv : Nat → Int32) (ta : Nat → Nat → Int32) (tb : Nat → Nat → Int64) (nv : Nat → Int32) (na : Nat → Nat → Int32) (S : SD) (lv : Nat) (v : Nat → Int32) (a : Nat → Nat → Int32) (hX : CX S lv (aQ a) tv ta) (hN : CNt S (a 54) nv na) (x : Int32) (H : Nat) (hGR : GR S H (a 54)) (hH : H ≤ 50000) : ∀ (k d s y : Nat) (pv : Nat → Int32) (pa : Nat → Nat → Int32) (gv : Nat → Int32) (ga : Nat → Nat → Int32) (se sk : Nat → Int32), s + k = (hmL (a 54) (S.1 31)).length → y < 5 ^ s → okP (hmL (a 54) (S.1 31)).length s y → cB (lfB (a 54) s y) (S.1 31) + s = (hmL (a 54) (S.1 31)).length → orQ S v a lv (hmL (a 54) (S.1 31)) s y pa → orS x v a lv (S.1 23) (S.1 24) (S.1 31) (hmL (a 54) (S.1 31)) (y * 5 ^ k) pv pa → k + 6 ≤ d → Con mX2_tryOrders d [.ref 0, .ref 36, .int (nI (mkN (lfB (a 54) s y) (S.1 31))), .int (nI s)] (pW pv pa gv ga ov oa se tv (va_up ta 22 sk) tb nv na) (fun r W' => ∃ pv' pa' gv' ga' se' sk', W' = pW pv' pa' gv' ga' ov oa se' tv (va_up ta 22 sk') tb nv na ∧ orQ S v a lv (hmL (a 54) (S.1 31)) s y pa' ∧ orS x v a lv (S.1 23) (S.1 24) (S.1 31) (hmL (a 54) (S.1 31)) ((y + 1) * 5 ^ k) pv' pa' ∧ r = none) := by
  have hcr2 := hX.cr.2
  have hL5 : (hmL (a 54) (S.1 31)).length ≤ 5 := Nat.le_trans (hmL_len _ _) hcr2
  intro k
  induction k with
  | zero =>
    intro d s y pv pa gv ga se sk hs hy hok hcb hQ hWo hd
    refine cc_tryOrders0 d pv pa gv ga ov oa se tv ta tb nv na S lv v a hX hN sk s y hs hcb hQ x hWo H hGR hH ?_ (Nat.lt_of_lt_of_le hy (Nat.le_trans (Nat.pow_le_pow_right (by decide) (show s ≤ 5 by omega)) (by decide))) (by omega)
    rw [okO_iff]
    rw [show s = (hmL (a 54) (S.1 31)).length from hs] at hok
    exact hok
  | succ k ih =>
    intro d s y pv pa gv ga se sk hs hy hok hcb hQ hWo hd
    refine cc_tryOrdersS d pv pa gv ga ov oa se tv ta tb nv na S lv v a hX hN sk k s y hs hcb hQ x hWo H hGR hH (fun pv8 pa8 gv8 ga8 se8 sk8 c hc hlf hQ8 hW8 => ?_) (by omega)
    have hhome : a 54 (18 + c) = -2 := by have h := hlf; unfold lfB at h; simp at h; exact h.1
    have husd : usd s y (jx (a 54) c) = false := by have h := hlf; unfold lfB at h; simp at h; exact h.2
    have hjD := hmL_D hhome hc
    have h1 := (lf_rm hcr2 hc hlf).1
    refine ih (d - 1) (s + 1) (5 * y + jx (a 54) c) pv8 pa8 gv8 ga8 se8 sk8 (by omega) ?_ (okP_s (by omega) hok hjD.2 husd) (by omega) hQ8 hW8 (by omega)
    rw [Nat.pow_succ]; omega
set_option maxHeartbeats 1000000 in
theorem cc_findOrder (d : Nat) (pv : Nat → Int32) (pa : Nat → Nat → Int32) (gv : Nat → Int32) (ga : Nat → Nat → Int32) (ov : Nat → Int32) (oa : Nat → Nat → Int32) (se : Nat → Int32) (tv : Nat → Int32) (ta : Nat → Nat → Int32) (tb : Nat → Nat → Int64) (nv : Nat → Int32) (na : Nat → Nat → Int32) (S : SD) (lv : Nat) (v : Nat → Int32) (a : Nat → Nat → Int32) (hX : CX S lv (aQ a) tv ta) (hN : CNt S (a 54) nv na) (x : Int32) (H : Nat) (hGR : GR S H (a 54)) (hH : H ≤ 50000) (hd : 12 ≤ d) : Con mX2_findOrder d [.ref 0, .ref 36] (pW pv pa gv ga ov oa se tv ta tb nv na) (fun r W' => ∃ pv' pa' gv' ga' ov' oa' se' sk', W' = pW pv' pa' gv' ga' ov' oa' se' tv (va_up ta 22 sk') tb nv na ∧ orS x v a lv (S.1 23) (S.1 24) (S.1 31) (hmL (a 54) (S.1 31)) (5 ^ (hmL (a 54) (S.1 31)).length) pv' pa' ∧ r = some (.int (pv' 14))) := by
  obtain ⟨hcr, hcr2⟩ := hX.cr
  obtain ⟨hsl, hsl2⟩ := hX.sl
  obtain ⟨hsp, hsp1, hsp2⟩ := hX.sp
  have hL5 : (hmL (a 54) (S.1 31)).length ≤ 5 := Nat.le_trans (hmL_len _ _) hcr2
  have hM : (mkN (lfB (a 54) 0 0) (S.1 31)) < 64 := mkN_64 (by omega)
  have hml : (itN (bitsF (a 54) 18 (-2)) 0 (S.1 31)) = nI (mkN (lfB (a 54) 0 0) (S.1 31)) := by
    rw [bits_mk _ _ _ (by omega)]
    exact congrArg nI (mkN_congr _ (fun k hk => by unfold lfB usd; simp))
  refine Con.of (by decide) (Nat.le_of_ble_eq_true rfl) ?_
  refine XG.blk tX2_findOrder_ok 0 7 (pc' := 11) (pl' := [some (.ref 0), some (.ref 36)]) (st' := [(.ref 36), (.int (nI 0)), (.ref 17)]) (W1 := (pW (va_up pv 14 (-1)) pa gv ga ov oa se tv ta tb nv na)) (bs := []) rfl rfl rfl ?_
  refine XG.callV (ro := [17, 18, 36, 37, 38, 39, 40]) (W1 := (hW 162 (pa 9) nv na)) eX2_findOrder_11 kl_X2_124 (cc_store6 (d - 1) (pa 9) nv na 0 (by omega) (by omega)) (px_fitS (by omega)) rfl ⟨rfl, by decide, by decide⟩ rfl rfl (Nat.le_of_ble_eq_true rfl) (fun r9 W9 hp9 hl9 => ?_)
  obtain ⟨rfl, rfl⟩ := hp9
  rw [pt_phn]
  show XG _ _ _ _ _ _ [] (pW (va_up pv 14 (-1)) (va_up pa 9 (stF (pa 9) 0 nv na)) gv ga ov oa se tv ta tb nv na)
  have hQ0 : orQ S v a lv (hmL (a 54) (S.1 31)) 0 0 (va_up pa 9 (stF (pa 9) 0 nv na)) := ⟨fun b hb => absurd hb (Nat.not_lt_zero _), fun i hi => by
    obtain rfl : i = 0 := by omega
    exact hN.eq hsl2 (stF_in _ _ _ _)⟩
  show XG _ _ _ _ _ _ [] (pW (va_up pv 14 (-1)) (va_up pa 9 (stF (pa 9) 0 nv na)) gv ga ov oa se tv (va_up ta 22 (ta 22)) tb nv na)
  refine XG.blk tX2_findOrder_ok 8 6 (pc' := 23) (pl' := [some (.ref 0), some (.ref 36)]) (st' := [(.int (-2)), (.ref 36), (.ref 19), (.ref 36), (.ref 0)]) (W1 := (pW (va_up pv 14 (-1)) (va_up pa 9 (stF (pa 9) 0 nv na)) gv ga ov oa se tv (va_up ta 22 (ta 22)) tb nv na)) (bs := []) rfl rfl rfl ?_
  refine XG.callV (ro := [19, 20, 21, 22, 23, 24, 25, 26, 27, 28, 29, 30, 31, 32, 33, 34, 35, 36, 37, 38, 39, 40]) (W1 := (rW se tv (va_up ta 22 (ta 22)) tb nv na)) eX2_findOrder_23 kl_X2_128 (cc_crossersAt (d - 1) se tv (va_up ta 22 (ta 22)) tb nv na S lv (aQ a) hX (a 54) hN (-2)) (px_fitS (by omega)) rfl ⟨rfl, by decide, by decide⟩ rfl rfl (Nat.le_of_ble_eq_true rfl) (fun r9 W9 hp9 hl9 => ?_)
  obtain ⟨rfl, rfl⟩ := hp9
  rw [hml]
  rw [pt_prn]
  show XG _ _ _ _ _ _ [(.int (nI (mkN (lfB (a 54) 0 0) (S.1 31)))), (.ref 36), (.ref 0)] (pW (va_up pv 14 (-1)) (va_up pa 9 (stF (pa 9) 0 nv na)) gv ga ov oa se tv (va_up ta 22 (ta 22)) tb nv na)
  refine XG.blk tX2_findOrder_ok 15 1 (pc' := 27) (pl' := [some (.ref 0), some (.ref 36)]) (st' := [(.int (nI 0)), (.int (nI (mkN (lfB (a 54) 0 0) (S.1 31)))), (.ref 36), (.ref 0)]) (W1 := (pW (va_up pv 14 (-1)) (va_up pa 9 (stF (pa 9) 0 nv na)) gv ga ov oa se tv (va_up ta 22 (ta 22)) tb nv na)) (bs := []) rfl rfl rfl ?_
  refine XG.callV0 eX2_findOrder_27 kl_X2_132 (cc_tryOrders ov oa tv ta tb nv na S lv v a hX hN x H hGR hH (hmL (a 54) (S.1 31)).length (d - 1) 0 0 (va_up pv 14 (-1)) (va_up pa 9 (stF (pa 9) 0 nv na)) gv ga se (ta 22) (Nat.zero_add _) (by decide) (fun k hk => absurd hk (Nat.not_lt_zero _)) (cB_home _ _) hQ0 (by rw [Nat.zero_mul]; exact ⟨fun _ => rfl, fun z => absurd (show (-1 : Int32) < 0 by decide) z⟩) (by omega)) (px_fitS (by omega)) rfl rfl rfl (Nat.le_of_ble_eq_true rfl) (fun r9 W9 hp9 hl9 => ?_)
  obtain ⟨pv8, pa8, gv8, ga8, se8, sk8, rfl, hQ8, hW8, rfl⟩ := hp9
  refine XG.blk tX2_findOrder_ok 17 2 (pc' := 34) (pl' := [some (.ref 0), some (.ref 36)]) (st' := [(.int (pv8 14))]) (W1 := (pW pv8 pa8 gv8 ga8 ov oa se8 tv (va_up ta 22 sk8) tb nv na)) (bs := []) rfl rfl rfl ?_
  refine XS.iret eX2_findOrder_34 rfl rfl ?_
  refine ⟨_, _, _, _, _, _, _, _, rfl, ?_, rfl⟩
  rw [Nat.zero_add, Nat.one_mul] at hW8; exact hW8
