/-! THE CLASS: plans -/
def pW (pv : Nat → Int32) (pa : Nat → Nat → Int32) (gv : Nat → Int32) (ga : Nat → Nat → Int32) (ov : Nat → Int32) (oa : Nat → Nat → Int32) (se : Nat → Int32) (tv : Nat → Int32) (ta : Nat → Nat → Int32) (tb : Nat → Nat → Int64) (nv : Nat → Int32) (na : Nat → Nat → Int32) : px_W := [.inr (2, [.int (pv 0), .int (pv 1), .int (pv 2), .int (pv 3), .ref 1, .ref 2, .ref 19, .ref 7, .ref 12, .ref 17, .ref 3, .ref 4, .ref 5, .ref 6, .int (pv 14)]), .inl (.int, 6, .inl (pa 4)), .inl (.int, 5, .inl (pa 5)), .inl (.int, 6, .inl (pa 10)), .inl (.int, 5, .inl (pa 11)), .inl (.int, 320, .inl (pa 12)), .inl (.int, 5, .inl (pa 13)), .inr (1, [.int (gv 0), .int (gv 1), .int (gv 2), .int (gv 3), .int (gv 4), .ref 8, .ref 9, .ref 10, .ref 11]), .inl (.int, 6, .inl (ga 5)), .inl (.int, 6, .inl (ga 6)), .inl (.int, 5, .inl (ga 7)), .inl (.int, 5, .inl (ga 8)), .inr (1, [.int (ov 0), .int (ov 1), .int (ov 2), .int (ov 3), .int (ov 4), .ref 13, .ref 14, .ref 15, .ref 16]), .inl (.int, 6, .inl (oa 5)), .inl (.int, 6, .inl (oa 6)), .inl (.int, 5, .inl (oa 7)), .inl (.int, 5, .inl (oa 8)), .inr (6, [.ref 18]), .inl (.int, 162, .inl (pa 9)), .inr (4, [.ref 21, .ref 20]), .inl (.int, 16, .inl se), .inr (7, [.int (tv 0), .int (tv 1), .int (tv 2), .int (tv 3), .int (tv 4), .int (tv 5), .int (tv 6), .ref 22, .ref 23, .ref 24, .ref 25, .ref 26, .ref 27, .ref 28, .ref 29, .ref 30, .ref 31, .ref 32]), .inl (.long, 6, .inr (.inl (tb 7))), .inl (.int, 6, .inl (ta 8)), .inl (.int, 6, .inl (ta 9)), .inl (.int, 6, .inl (ta 10)), .inl (.int, 6, .inl (ta 11)), .inl (.int, 6, .inl (ta 12)), .inl (.long, 5, .inr (.inl (tb 13))), .inl (.int, 5, .inl (ta 14)), .inl (.int, 5, .inl (ta 15)), .inl (.int, 5, .inl (ta 16)), .inr (0, [.ref 33, .ref 34, .ref 35, .int (tv 20)]), .inl (.int, 404, .inl (ta 20)), .inl (.int, 3, .inl (ta 21)), .inl (.int, 32, .inl (ta 22)), .inr (1, [.int (nv 0), .int (nv 1), .int (nv 2), .int (nv 3), .int (nv 4), .ref 37, .ref 38, .ref 39, .ref 40]), .inl (.int, 6, .inl (na 5)), .inl (.int, 6, .inl (na 6)), .inl (.int, 5, .inl (na 7)), .inl (.int, 5, .inl (na 8))]
set_option maxHeartbeats 1000000 in
theorem pt_prn (pv : Nat → Int32) (pa : Nat → Nat → Int32) (gv : Nat → Int32) (ga : Nat → Nat → Int32) (ov : Nat → Int32) (oa : Nat → Nat → Int32) (se : Nat → Int32) (tv : Nat → Int32) (ta : Nat → Nat → Int32) (tb : Nat → Nat → Int64) (nv : Nat → Int32) (na : Nat → Nat → Int32) (se' : Nat → Int32) (tv' : Nat → Int32) (ta' : Nat → Nat → Int32) (tb' : Nat → Nat → Int64) (nv' : Nat → Int32) (na' : Nat → Nat → Int32) : px_pt (px_f [19, 20, 21, 22, 23, 24, 25, 26, 27, 28, 29, 30, 31, 32, 33, 34, 35, 36, 37, 38, 39, 40]) [19, 20, 21, 22, 23, 24, 25, 26, 27, 28, 29, 30, 31, 32, 33, 34, 35, 36, 37, 38, 39, 40] (rW se' tv' ta' tb' nv' na') (pW pv pa gv ga ov oa se tv ta tb nv na) = pW pv pa gv ga ov oa se' tv' ta' tb' nv' na' := by
  unfold pW rW
  simp only [px_pt, List.set_cons_succ, List.set_cons_zero]
  rfl
set_option maxHeartbeats 1000000 in
theorem pt_prg (pv : Nat → Int32) (pa : Nat → Nat → Int32) (gv : Nat → Int32) (ga : Nat → Nat → Int32) (ov : Nat → Int32) (oa : Nat → Nat → Int32) (se : Nat → Int32) (tv : Nat → Int32) (ta : Nat → Nat → Int32) (tb : Nat → Nat → Int64) (nv : Nat → Int32) (na : Nat → Nat → Int32) (se' : Nat → Int32) (tv' : Nat → Int32) (ta' : Nat → Nat → Int32) (tb' : Nat → Nat → Int64) (gv' : Nat → Int32) (ga' : Nat → Nat → Int32) : px_pt (px_f [19, 20, 21, 22, 23, 24, 25, 26, 27, 28, 29, 30, 31, 32, 33, 34, 35, 7, 8, 9, 10, 11]) [19, 20, 21, 22, 23, 24, 25, 26, 27, 28, 29, 30, 31, 32, 33, 34, 35, 7, 8, 9, 10, 11] (rW se' tv' ta' tb' gv' ga') (pW pv pa gv ga ov oa se tv ta tb nv na) = pW pv pa gv' ga' ov oa se' tv' ta' tb' nv na := by
  unfold pW rW
  simp only [px_pt, List.set_cons_succ, List.set_cons_zero]
  rfl
set_option maxHeartbeats 1000000 in
theorem pt_pro (pv : Nat → Int32) (pa : Nat → Nat → Int32) (gv : Nat → Int32) (ga : Nat → Nat → Int32) (ov : Nat → Int32) (oa : Nat → Nat → Int32) (se : Nat → Int32) (tv : Nat → Int32) (ta : Nat → Nat → Int32) (tb : Nat → Nat → Int64) (nv : Nat → Int32) (na : Nat → Nat → Int32) (se' : Nat → Int32) (tv' : Nat → Int32) (ta' : Nat → Nat → Int32) (tb' : Nat → Nat → Int64) (ov' : Nat → Int32) (oa' : Nat → Nat → Int32) : px_pt (px_f [19, 20, 21, 22, 23, 24, 25, 26, 27, 28, 29, 30, 31, 32, 33, 34, 35, 12, 13, 14, 15, 16]) [19, 20, 21, 22, 23, 24, 25, 26, 27, 28, 29, 30, 31, 32, 33, 34, 35, 12, 13, 14, 15, 16] (rW se' tv' ta' tb' ov' oa') (pW pv pa gv ga ov oa se tv ta tb nv na) = pW pv pa gv ga ov' oa' se' tv' ta' tb' nv na := by
  unfold pW rW
  simp only [px_pt, List.set_cons_succ, List.set_cons_zero]
  rfl
set_option maxHeartbeats 1000000 in
theorem pt_pcg (pv : Nat → Int32) (pa : Nat → Nat → Int32) (gv : Nat → Int32) (ga : Nat → Nat → Int32) (ov : Nat → Int32) (oa : Nat → Nat → Int32) (se : Nat → Int32) (tv : Nat → Int32) (ta : Nat → Nat → Int32) (tb : Nat → Nat → Int64) (nv : Nat → Int32) (na : Nat → Nat → Int32) (gv' : Nat → Int32) (ga' : Nat → Nat → Int32) (nv' : Nat → Int32) (na' : Nat → Nat → Int32) : px_pt (px_f [7, 8, 9, 10, 11, 36, 37, 38, 39, 40]) [7, 8, 9, 10, 11, 36, 37, 38, 39, 40] (cW gv' ga' nv' na') (pW pv pa gv ga ov oa se tv ta tb nv na) = pW pv pa gv' ga' ov oa se tv ta tb nv' na' := by
  unfold pW cW
  simp only [px_pt, List.set_cons_succ, List.set_cons_zero]
  rfl
set_option maxHeartbeats 1000000 in
theorem pt_pco (pv : Nat → Int32) (pa : Nat → Nat → Int32) (gv : Nat → Int32) (ga : Nat → Nat → Int32) (ov : Nat → Int32) (oa : Nat → Nat → Int32) (se : Nat → Int32) (tv : Nat → Int32) (ta : Nat → Nat → Int32) (tb : Nat → Nat → Int64) (nv : Nat → Int32) (na : Nat → Nat → Int32) (ov' : Nat → Int32) (oa' : Nat → Nat → Int32) (gv' : Nat → Int32) (ga' : Nat → Nat → Int32) : px_pt (px_f [12, 13, 14, 15, 16, 7, 8, 9, 10, 11]) [12, 13, 14, 15, 16, 7, 8, 9, 10, 11] (cW ov' oa' gv' ga') (pW pv pa gv ga ov oa se tv ta tb nv na) = pW pv pa gv' ga' ov' oa' se tv ta tb nv na := by
  unfold pW cW
  simp only [px_pt, List.set_cons_succ, List.set_cons_zero]
  rfl
set_option maxHeartbeats 1000000 in
theorem pt_pt (pv : Nat → Int32) (pa : Nat → Nat → Int32) (gv : Nat → Int32) (ga : Nat → Nat → Int32) (ov : Nat → Int32) (oa : Nat → Nat → Int32) (se : Nat → Int32) (tv : Nat → Int32) (ta : Nat → Nat → Int32) (tb : Nat → Nat → Int64) (nv : Nat → Int32) (na : Nat → Nat → Int32) (tv' : Nat → Int32) (ta' : Nat → Nat → Int32) (tb' : Nat → Nat → Int64) : px_pt (px_f [21, 22, 23, 24, 25, 26, 27, 28, 29, 30, 31, 32, 33, 34, 35]) [21, 22, 23, 24, 25, 26, 27, 28, 29, 30, 31, 32, 33, 34, 35] (tW tv' ta' tb') (pW pv pa gv ga ov oa se tv ta tb nv na) = pW pv pa gv ga ov oa se tv' ta' tb' nv na := by
  unfold pW tW
  simp only [px_pt, List.set_cons_succ, List.set_cons_zero]
  rfl
set_option maxHeartbeats 1000000 in
theorem cc_wagesOf (d : Nat) (tv : Nat → Int32) (ta : Nat → Nat → Int32) (tb : Nat → Nat → Int64) (S : SD) (lv : Nat) (a : Nat → Nat → Int32) (hX : CX S lv a tv ta) (s : Int32) : Con mX7_wagesOf d [.ref 0, .int s] (tW tv ta tb) (fun r W' => W' = tW tv ta tb ∧ r = some (.int (wgF (a 27) lv (S.1 24) s))) := by
  obtain ⟨hsl, hsl2⟩ := hX.sl
  refine Con.of (by decide) (Nat.le_of_ble_eq_true rfl) ?_
  refine XG.blk tX7_wagesOf_ok 0 4 (pc' := 4) (pl' := [some (.ref 0), some (.int s), some (.int (nI 0)), some (.int (nI 0))]) (st' := []) (W1 := (tW tv ta tb)) (bs := []) rfl rfl rfl ?_
  refine px_for (S.1 24) (fun i => XG mX7_wagesOf _ 0 0 4 [some (.ref 0), some (.int s), some (.int (itN (chW (a 27) lv s) 0 i)), some (.int (nI i))] [] (tW tv ta tb)) ?_ ?_ 0 (Nat.zero_le _)
  · skip
    have q1 : (tv 1) = (nI (S.1 24)) := hsl
    refine XG.blk tX7_wagesOf_ok 4 3 (pc' := 9) (pl' := [some (.ref 0), some (.int s), some (.int (itN (chW (a 27) lv s) 0 (S.1 24))), some (.int (nI (S.1 24)))]) (st' := [(.int (tv 1)), (.int (nI (S.1 24)))]) (W1 := (tW tv ta tb)) (bs := []) rfl rfl rfl ?_
    simp only [q1]
    refine XG.br eX7_wagesOf_9 (P := (nI (S.1 24)) ≤ (nI (S.1 24))) (r := []) rfl (tgt := 40) (by decide) (fun h9 => ?_) (fun h9 => ?_)
    · skip
      have g9 : (S.1 24) ≤ (S.1 24) := (nI_leI (a := (S.1 24)) (b := (S.1 24)) (by omega) (by omega)).mp h9
      refine XG.blk tX7_wagesOf_ok 26 1 (pc' := 41) (pl' := [some (.ref 0), some (.int s), some (.int (itN (chW (a 27) lv s) 0 (S.1 24))), some (.int (nI (S.1 24)))]) (st' := [(.int (itN (chW (a 27) lv s) 0 (S.1 24)))]) (W1 := (tW tv ta tb)) (bs := []) rfl rfl rfl ?_
      refine XS.iret eX7_wagesOf_41 rfl rfl ?_
      exact ⟨rfl, rfl⟩
    · exfalso
      have g9 : ¬ (S.1 24) ≤ (S.1 24) := (fun z => h9 ((nI_leI (a := (S.1 24)) (b := (S.1 24)) (by omega) (by omega)).mpr z))
      omega
  · intro i hi ihi
    have q2 : (tv 1) = (nI (S.1 24)) := hsl
    refine XG.blk tX7_wagesOf_ok 4 3 (pc' := 9) (pl' := [some (.ref 0), some (.int s), some (.int (itN (chW (a 27) lv s) 0 i)), some (.int (nI i))]) (st' := [(.int (tv 1)), (.int (nI i))]) (W1 := (tW tv ta tb)) (bs := []) rfl rfl rfl ?_
    simp only [q2]
    refine XG.br eX7_wagesOf_9 (P := (nI (S.1 24)) ≤ (nI i)) (r := []) rfl (tgt := 40) (by decide) (fun h9 => ?_) (fun h9 => ?_)
    · exfalso
      have g9 : (S.1 24) ≤ i := (nI_leI (a := (S.1 24)) (b := i) (by omega) (by omega)).mp h9
      omega
    · skip
      have g9 : ¬ (S.1 24) ≤ i := (fun z => h9 ((nI_leI (a := (S.1 24)) (b := i) (by omega) (by omega)).mpr z))
      refine XG.blk tX7_wagesOf_ok 8 7 (pc' := 19) (pl' := [some (.ref 0), some (.int s), some (.int (itN (chW (a 27) lv s) 0 i)), some (.int (nI i))]) (st' := [(.int (nI 1)), (.int ((s >>> ((nI i) &&& 31)) &&& (nI 1))), (.int (itN (chW (a 27) lv s) 0 i))]) (W1 := (tW tv ta tb)) (bs := []) rfl rfl rfl ?_
      refine XG.br eX7_wagesOf_19 (P := ¬ ((s >>> ((nI i) &&& 31)) &&& (nI 1)) = (nI 1)) (r := [(.int (itN (chW (a 27) lv s) 0 i))]) rfl (tgt := 31) (by decide) (fun h19 => ?_) (fun h19 => ?_)
      · skip
        have q3 : ((nI i) + (nI 1)) = (nI (i + 1)) := px_eadd rfl rfl
        refine XG.blk tX7_wagesOf_ok 21 4 (pc' := 37) (pl' := [some (.ref 0), some (.int s), some (.int ((itN (chW (a 27) lv s) 0 i) + (nI 0))), some (.int ((nI i) + (nI 1)))]) (st' := []) (W1 := (tW tv ta tb)) (bs := []) rfl rfl rfl ?_
        simp only [q3]
        refine XG.goto eX7_wagesOf_37 (tgt := 4) (by decide) ?_
        rw [show (itN (chW (a 27) lv s) 0 (i + 1)) = (itN (chW (a 27) lv s) 0 i) + nI 0 from (if_neg h19).trans (Int32.add_zero _).symm] at ihi; exact ihi
      · skip
        have h19 := Decidable.not_not.mp h19
        have q4 : (nI i).toNatClampNeg = i := nI_clamp (by omega)
        have q5 : ((ta 10) i) = (a 27 (6 * lv + i)) := (hX.slo (by omega)).2.2.1
        refine XG.blk tX7_wagesOf_ok 16 4 (pc' := 28) (pl' := [some (.ref 0), some (.int s), some (.int (itN (chW (a 27) lv s) 0 i)), some (.int (nI i))]) (st' := [(.int ((ta 10) (nI i).toNatClampNeg)), (.int (itN (chW (a 27) lv s) 0 i))]) (W1 := (tW tv ta tb)) (bs := [px_vb (nI i) 6]) rfl rfl (by (try simp only [q4, q5]); exact (px_all (px_vbN (by omega) (by decide)) rfl)) ?_
        simp only [q4, q5]
        refine XG.goto eX7_wagesOf_28 (tgt := 32) (by decide) ?_
        have q6 : ((nI i) + (nI 1)) = (nI (i + 1)) := px_eadd rfl rfl
        refine XG.blk tX7_wagesOf_ok 22 3 (pc' := 37) (pl' := [some (.ref 0), some (.int s), some (.int ((itN (chW (a 27) lv s) 0 i) + (a 27 (6 * lv + i)))), some (.int ((nI i) + (nI 1)))]) (st' := []) (W1 := (tW tv ta tb)) (bs := []) rfl rfl rfl ?_
        simp only [q6]
        refine XG.goto eX7_wagesOf_37 (tgt := 4) (by decide) ?_
        rw [show (itN (chW (a 27) lv s) 0 (i + 1)) = (itN (chW (a 27) lv s) 0 i) + a 27 (6 * lv + i) from if_pos h19] at ihi; exact ihi
def mvR (t : Int32 × Int32 × Int32) (pv : Nat → Int32) : Prop := pv 0 = t.1 ∧ (t.2.1 < 0 → t.2.1 = -2 ∧ pv 1 = -1) ∧ (¬ t.2.1 < 0 → pv 1 = t.2.1 ∧ pv 2 = t.2.2)
set_option maxHeartbeats 1000000 in
theorem cc_findMove (d : Nat) (pv : Nat → Int32) (pa : Nat → Nat → Int32) (gv : Nat → Int32) (ga : Nat → Nat → Int32) (ov : Nat → Int32) (oa : Nat → Nat → Int32) (se : Nat → Int32) (tv : Nat → Int32) (ta : Nat → Nat → Int32) (tb : Nat → Nat → Int64) (nv : Nat → Int32) (na : Nat → Nat → Int32) (S : SD) (lv : Nat) (v : Nat → Int32) (a : Nat → Nat → Int32) (hX : CX S lv (aQ a) tv ta) (hN : CNt S (a 54) nv na) (hd : 5 ≤ d) : Con mX2_findMove d [.ref 0, .ref 36] (pW pv pa gv ga ov oa se tv ta tb nv na) (fun r W' => ∃ pv' pa' gv' ga' ov' oa' se' sk', W' = pW pv' pa' gv' ga' ov' oa' se' tv (va_up ta 22 sk') tb nv na ∧ mvR (btR a lv (S.1 23) (S.1 24) (S.1 31)) pv' ∧ r = some (.int (if (btR a lv (S.1 23) (S.1 24) (S.1 31)).2.1 < 0 then 0 else 1))) := by
  obtain ⟨hcr, hcr2⟩ := hX.cr
  obtain ⟨hsl, hsl2⟩ := hX.sl
  obtain ⟨hsp, hsp1, hsp2⟩ := hX.sp
  refine Con.of (by decide) (Nat.le_of_ble_eq_true rfl) ?_
  refine XG.blk tX2_findMove_ok 0 3 (pc' := 5) (pl' := [some (.ref 0), some (.ref 36), none, none, none]) (st' := [(.ref 36), (.ref 7)]) (W1 := (pW pv pa gv ga ov oa se tv ta tb nv na)) (bs := []) rfl rfl rfl ?_
  refine XG.callV (ro := [7, 8, 9, 10, 11, 36, 37, 38, 39, 40]) (W1 := (cW gv ga nv na)) eX2_findMove_5 kl_X2_97 (cc_copy (d - 1) gv ga nv na (by omega)) (px_fitS (by omega)) rfl ⟨rfl, by decide, by decide⟩ rfl rfl (Nat.le_of_ble_eq_true rfl) (fun r9 W9 hp9 hl9 => ?_)
  obtain ⟨gv1, ga1, rfl, hE1, rfl⟩ := hp9
  have hN1 : CNt S (a 54) gv1 ga1 := hN.eq hsl2 hE1
  rw [pt_pcg]
  show XG _ _ _ _ _ _ [] (pW pv pa gv1 ga1 ov oa se tv ta tb nv na)
  refine XG.blk tX2_findMove_ok 4 7 (pc' := 19) (pl' := [some (.ref 0), some (.ref 36), none, none, none]) (st' := [(.ref 36), (.ref 19), (.ref 0)]) (W1 := (pW (va_up pv 1 (-1)) pa gv1 ga1 ov oa se tv ta tb nv na)) (bs := []) rfl rfl rfl ?_
  refine XG.callV (ro := [19, 20, 21, 22, 23, 24, 25, 26, 27, 28, 29, 30, 31, 32, 33, 34, 35, 36, 37, 38, 39, 40]) (W1 := (rW se tv ta tb nv na)) eX2_findMove_19 kl_X2_104 (cc_leastBorne (d - 1) se tv ta tb nv na S lv (aQ a) hX (a 54) hN (by omega)) (px_fitS (by omega)) rfl ⟨rfl, by decide, by decide⟩ rfl rfl (Nat.le_of_ble_eq_true rfl) (fun r9 W9 hp9 hl9 => ?_)
  obtain ⟨se2, sk2, rfl, rfl⟩ := hp9
  rw [pt_prn]
  show XG _ _ _ _ _ _ [(.int (lR (aQ a) lv (S.1 23) (S.1 24) (S.1 31) (a 54))), (.ref 0)] (pW (va_up pv 1 (-1)) pa gv1 ga1 ov oa se2 tv (va_up ta 22 sk2) tb nv na)
  refine XG.blk tX2_findMove_ok 12 3 (pc' := 27) (pl' := [some (.ref 0), some (.ref 36), some (.int (nI 0)), none, none]) (st' := []) (W1 := (pW (va_up (va_up pv 1 (-1)) 0 (lR (aQ a) lv (S.1 23) (S.1 24) (S.1 31) (a 54))) pa gv1 ga1 ov oa se2 tv (va_up ta 22 sk2) tb nv na)) (bs := []) rfl rfl rfl ?_
  refine px_for (S.1 24) (fun i => ∀ (pv9 : Nat → Int32) (ga9 : Nat → Nat → Int32) (se9 sk9 : Nat → Int32) (_ : mvR (itN (btO a lv (S.1 23) (S.1 24) (S.1 31)) (lR (aQ a) lv (S.1 23) (S.1 24) (S.1 31) (a 54), -2, -2) i) pv9) (_ : CNt S (a 54) gv1 ga9), XG mX2_findMove _ 0 0 27 [some (.ref 0), some (.ref 36), some (.int (nI i)), none, none] [] (pW pv9 pa gv1 ga9 ov oa se9 tv (va_up ta 22 sk9) tb nv na)) ?_ ?_ 0 (Nat.zero_le _) _ _ _ _ ⟨rfl, fun _ => ⟨rfl, rfl⟩, fun z => absurd (show (-2 : Int32) < 0 by decide) z⟩ hN1
  · intro pv9 ga9 se9 sk9 hM9 hG9
    have q1 : (tv 1) = (nI (S.1 24)) := hsl
    refine XG.blk tX2_findMove_ok 15 5 (pc' := 38) (pl' := [some (.ref 0), some (.ref 36), some (.int (nI (S.1 24))), none, none]) (st' := [(.int (tv 1)), (.int (nI (S.1 24)))]) (W1 := (pW pv9 pa gv1 ga9 ov oa se9 tv (va_up ta 22 sk9) tb nv na)) (bs := []) rfl rfl rfl ?_
    simp only [q1]
    refine XG.br eX2_findMove_38 (P := (nI (S.1 24)) ≤ (nI (S.1 24))) (r := []) rfl (tgt := 132) (by decide) (fun h38 => ?_) (fun h38 => ?_)
    · skip
      have g38 : (S.1 24) ≤ (S.1 24) := (nI_leI (a := (S.1 24)) (b := (S.1 24)) (by omega) (by omega)).mp h38
      refine XG.blk tX2_findMove_ok 67 3 (pc' := 137) (pl' := [some (.ref 0), some (.ref 36), some (.int (nI (S.1 24))), none, none]) (st' := [(.int (-1)), (.int (pv9 1))]) (W1 := (pW pv9 pa gv1 ga9 ov oa se9 tv (va_up ta 22 sk9) tb nv na)) (bs := []) rfl rfl rfl ?_
      refine XG.br eX2_findMove_137 (P := (pv9 1) = (-1)) (r := []) rfl (tgt := 144) (by decide) (fun h137 => ?_) (fun h137 => ?_)
      · skip
        refine XG.blk tX2_findMove_ok 73 1 (pc' := 145) (pl' := [some (.ref 0), some (.ref 36), some (.int (nI (S.1 24))), none, none]) (st' := [(.int (nI 0))]) (W1 := (pW pv9 pa gv1 ga9 ov oa se9 tv (va_up ta 22 sk9) tb nv na)) (bs := []) rfl rfl rfl ?_
        refine XS.iret eX2_findMove_145 rfl (by decide) ?_
        refine ⟨_, _, _, _, _, _, _, _, rfl, hM9, ?_⟩
        rw [if_pos (show (btR a lv (S.1 23) (S.1 24) (S.1 31)).2.1 < 0 from Decidable.not_not.mp (fun z => by
          have h := (hM9.2.2 z).1
          rw [h137] at h
          exact z (by show (itN (btO a lv (S.1 23) (S.1 24) (S.1 31)) (lR (aQ a) lv (S.1 23) (S.1 24) (S.1 31) (a 54), -2, -2) (S.1 24)).2.1 < 0; rw [← h]; decide)))]; rfl
      · skip
        refine XG.blk tX2_findMove_ok 71 1 (pc' := 141) (pl' := [some (.ref 0), some (.ref 36), some (.int (nI (S.1 24))), none, none]) (st' := [(.int (nI 1))]) (W1 := (pW pv9 pa gv1 ga9 ov oa se9 tv (va_up ta 22 sk9) tb nv na)) (bs := []) rfl rfl rfl ?_
        refine XG.goto eX2_findMove_141 (tgt := 145) (by decide) ?_
        refine XS.iret eX2_findMove_145 rfl (by decide) ?_
        refine ⟨_, _, _, _, _, _, _, _, rfl, hM9, ?_⟩
        rw [if_neg (show ¬ (btR a lv (S.1 23) (S.1 24) (S.1 31)).2.1 < 0 from fun z => h137 (hM9.2.1 z).2)]; rfl
    · exfalso
      have g38 : ¬ (S.1 24) ≤ (S.1 24) := (fun z => h38 ((nI_leI (a := (S.1 24)) (b := (S.1 24)) (by omega) (by omega)).mpr z))
      omega
  · intro i hi ihi pv9 ga9 se9 sk9 hM9 hG9
    have q2 : (tv 1) = (nI (S.1 24)) := hsl
    refine XG.blk tX2_findMove_ok 15 5 (pc' := 38) (pl' := [some (.ref 0), some (.ref 36), some (.int (nI i)), none, none]) (st' := [(.int (tv 1)), (.int (nI i))]) (W1 := (pW pv9 pa gv1 ga9 ov oa se9 tv (va_up ta 22 sk9) tb nv na)) (bs := []) rfl rfl rfl ?_
    simp only [q2]
    refine XG.br eX2_findMove_38 (P := (nI (S.1 24)) ≤ (nI i)) (r := []) rfl (tgt := 132) (by decide) (fun h38 => ?_) (fun h38 => ?_)
    · exfalso
      have g38 : (S.1 24) ≤ i := (nI_leI (a := (S.1 24)) (b := i) (by omega) (by omega)).mp h38
      omega
    · skip
      have g38 : ¬ (S.1 24) ≤ i := (fun z => h38 ((nI_leI (a := (S.1 24)) (b := i) (by omega) (by omega)).mpr z))
      refine XG.blk tX2_findMove_ok 21 2 (pc' := 43) (pl' := [some (.ref 0), some (.ref 36), some (.int (nI i)), some (.int (nI 0)), none]) (st' := []) (W1 := (pW pv9 pa gv1 ga9 ov oa se9 tv (va_up ta 22 sk9) tb nv na)) (bs := []) rfl rfl rfl ?_
      refine px_for (S.1 23) (fun j => ∀ (pv8 : Nat → Int32) (ga8 : Nat → Nat → Int32) (se8 sk8 : Nat → Int32) (y8 : Int32) (_ : mvR (itN (btI a lv (S.1 23) (S.1 24) (S.1 31) i) (itN (btO a lv (S.1 23) (S.1 24) (S.1 31)) (lR (aQ a) lv (S.1 23) (S.1 24) (S.1 31) (a 54), -2, -2) i) j) pv8) (_ : CNt S (upd (a 54) (12 + i) y8) gv1 ga8), XG mX2_findMove _ 0 0 43 [some (.ref 0), some (.ref 36), some (.int (nI i)), some (.int (nI j)), none] [] (pW pv8 pa gv1 ga8 ov oa se8 tv (va_up ta 22 sk8) tb nv na)) ?_ ?_ 0 (Nat.zero_le _) _ _ _ _ (a 54 (12 + i)) hM9 (by rw [upd_self]; exact hG9)
      · intro pv8 ga8 se8 sk8 y8 hM8 hG8
        have q3 : (tv 0) = (nI (S.1 23)) := hsp
        refine XG.blk tX2_findMove_ok 23 5 (pc' := 54) (pl' := [some (.ref 0), some (.ref 36), some (.int (nI i)), some (.int (nI (S.1 23))), none]) (st' := [(.int (tv 0)), (.int (nI (S.1 23)))]) (W1 := (pW pv8 pa gv1 ga8 ov oa se8 tv (va_up ta 22 sk8) tb nv na)) (bs := []) rfl rfl rfl ?_
        simp only [q3]
        refine XG.br eX2_findMove_54 (P := (nI (S.1 23)) ≤ (nI (S.1 23))) (r := []) rfl (tgt := 111) (by decide) (fun h54 => ?_) (fun h54 => ?_)
        · skip
          have g54 : (S.1 23) ≤ (S.1 23) := (nI_leI (a := (S.1 23)) (b := (S.1 23)) (by omega) (by omega)).mp h54
          have q4 : (nI i).toNatClampNeg = i := nI_clamp (by omega)
          have q5 : ((na 6) i) = (a 54 (12 + i)) := (hN.2.2.2.2.2.1 i (by omega)).2
          have q6 : ((nI i) + (nI 1)) = (nI (i + 1)) := px_eadd rfl rfl
          refine XG.blk tX2_findMove_ok 56 10 (pc' := 129) (pl' := [some (.ref 0), some (.ref 36), some (.int ((nI i) + (nI 1))), some (.int (nI (S.1 23))), none]) (st' := []) (W1 := (pW pv8 pa gv1 (va_up ga8 6 (upd (ga8 6) (nI i).toNatClampNeg ((na 6) (nI i).toNatClampNeg))) ov oa se8 tv (va_up ta 22 sk8) tb nv na)) (bs := [px_vb (nI i) 6, px_vb (nI i) 6]) rfl rfl (by (try simp only [q4, q5, q6]); exact (px_all (px_vbN (by omega) (by decide)) (px_all (px_vbN (by omega) (by decide)) rfl))) ?_
          simp only [q4, q5, q6]
          refine XG.goto eX2_findMove_129 (tgt := 27) (by decide) ?_
          refine XG.weak (pl' := [some (.ref 0), some (.ref 36), some (.int (nI (i + 1))), none, none]) ⟨rfl, rfl, rfl, trivial⟩ ?_
          refine ihi _ _ _ _ ?_ ?_
          · exact hM8
          · have h := hG8.li (x := i) (by omega) (a 54 (12 + i)) hsl2
            rw [upd_upd, upd_self] at h; exact h
        · exfalso
          have g54 : ¬ (S.1 23) ≤ (S.1 23) := (fun z => h54 ((nI_leI (a := (S.1 23)) (b := (S.1 23)) (by omega) (by omega)).mpr z))
          omega
      · intro j hj ihj pv8 ga8 se8 sk8 y8 hM8 hG8
        have q7 : (tv 0) = (nI (S.1 23)) := hsp
        refine XG.blk tX2_findMove_ok 23 5 (pc' := 54) (pl' := [some (.ref 0), some (.ref 36), some (.int (nI i)), some (.int (nI j)), none]) (st' := [(.int (tv 0)), (.int (nI j))]) (W1 := (pW pv8 pa gv1 ga8 ov oa se8 tv (va_up ta 22 sk8) tb nv na)) (bs := []) rfl rfl rfl ?_
        simp only [q7]
        refine XG.br eX2_findMove_54 (P := (nI (S.1 23)) ≤ (nI j)) (r := []) rfl (tgt := 111) (by decide) (fun h54 => ?_) (fun h54 => ?_)
        · exfalso
          have g54 : (S.1 23) ≤ j := (nI_leI (a := (S.1 23)) (b := j) (by omega) (by omega)).mp h54
          omega
        · skip
          have g54 : ¬ (S.1 23) ≤ j := (fun z => h54 ((nI_leI (a := (S.1 23)) (b := j) (by omega) (by omega)).mpr z))
          have q8 : (nI i).toNatClampNeg = i := nI_clamp (by omega)
          refine XG.blk tX2_findMove_ok 29 6 (pc' := 67) (pl' := [some (.ref 0), some (.ref 36), some (.int (nI i)), some (.int (nI j)), none]) (st' := []) (W1 := (pW pv8 pa gv1 (va_up ga8 6 (upd (ga8 6) (nI i).toNatClampNeg (nI j))) ov oa se8 tv (va_up ta 22 sk8) tb nv na)) (bs := [px_vb (nI i) 6]) rfl rfl (by (try simp only [q8]); exact (px_all (px_vbN (by omega) (by decide)) rfl)) ?_
          simp only [q8]
          have hG7 : CNt S (upd (a 54) (12 + i) (nI j)) gv1 (va_up ga8 6 (upd (ga8 6) i (nI j))) := by
            have h := hG8.li (x := i) (by omega) (nI j) hsl2
            rw [upd_upd] at h; exact h
          refine XG.blk tX2_findMove_ok 35 4 (pc' := 75) (pl' := [some (.ref 0), some (.ref 36), some (.int (nI i)), some (.int (nI j)), none]) (st' := [(.ref 7), (.ref 19)]) (W1 := (pW pv8 pa gv1 (va_up ga8 6 (upd (ga8 6) i (nI j))) ov oa se8 tv (va_up ta 22 sk8) tb nv na)) (bs := []) rfl rfl rfl ?_
          refine XG.callV (ro := [19, 20, 21, 22, 23, 24, 25, 26, 27, 28, 29, 30, 31, 32, 33, 34, 35, 7, 8, 9, 10, 11]) (W1 := (rW se8 tv (va_up ta 22 sk8) tb gv1 (va_up ga8 6 (upd (ga8 6) i (nI j))))) eX2_findMove_75 kl_X2_104 (cc_leastBorne (d - 1) se8 tv (va_up ta 22 sk8) tb gv1 (va_up ga8 6 (upd (ga8 6) i (nI j))) S lv (aQ a) hX (upd (a 54) (12 + i) (nI j)) hG7 (by omega)) (px_fitS (by omega)) rfl ⟨rfl, by decide, by decide⟩ rfl rfl (Nat.le_of_ble_eq_true rfl) (fun r9 W9 hp9 hl9 => ?_)
          obtain ⟨se3, sk3, rfl, rfl⟩ := hp9
          rw [pt_prg]
          show XG _ _ _ _ _ _ [(.int (lR (aQ a) lv (S.1 23) (S.1 24) (S.1 31) (upd (a 54) (12 + i) (nI j))))] (pW pv8 pa gv1 (va_up ga8 6 (upd (ga8 6) i (nI j))) ov oa se3 tv (va_up ta 22 sk3) tb nv na)
          refine XG.blk tX2_findMove_ok 40 4 (pc' := 86) (pl' := [some (.ref 0), some (.ref 36), some (.int (nI i)), some (.int (nI j)), some (.int (lR (aQ a) lv (S.1 23) (S.1 24) (S.1 31) (upd (a 54) (12 + i) (nI j))))]) (st' := [(.int (pv8 0)), (.int (lR (aQ a) lv (S.1 23) (S.1 24) (S.1 31) (upd (a 54) (12 + i) (nI j))))]) (W1 := (pW pv8 pa gv1 (va_up ga8 6 (upd (ga8 6) i (nI j))) ov oa se3 tv (va_up ta 22 sk3) tb nv na)) (bs := []) rfl rfl rfl ?_
          refine XG.br eX2_findMove_86 (P := (lR (aQ a) lv (S.1 23) (S.1 24) (S.1 31) (upd (a 54) (12 + i) (nI j))) ≤ (pv8 0)) (r := []) rfl (tgt := 105) (by decide) (fun h86 => ?_) (fun h86 => ?_)
          · skip
            have q9 : ((nI j) + (nI 1)) = (nI (j + 1)) := px_eadd rfl rfl
            refine XG.blk tX2_findMove_ok 54 1 (pc' := 108) (pl' := [some (.ref 0), some (.ref 36), some (.int (nI i)), some (.int ((nI j) + (nI 1))), some (.int (lR (aQ a) lv (S.1 23) (S.1 24) (S.1 31) (upd (a 54) (12 + i) (nI j))))]) (st' := []) (W1 := (pW pv8 pa gv1 (va_up ga8 6 (upd (ga8 6) i (nI j))) ov oa se3 tv (va_up ta 22 sk3) tb nv na)) (bs := []) rfl rfl rfl ?_
            simp only [q9]
            refine XG.goto eX2_findMove_108 (tgt := 43) (by decide) ?_
            refine XG.weak (pl' := [some (.ref 0), some (.ref 36), some (.int (nI i)), some (.int (nI (j + 1))), none]) ⟨rfl, rfl, rfl, rfl, trivial⟩ ?_
            refine ihj _ _ _ _ (nI j) ?_ hG7
            rw [show (itN (btI a lv (S.1 23) (S.1 24) (S.1 31) i) (itN (btO a lv (S.1 23) (S.1 24) (S.1 31)) (lR (aQ a) lv (S.1 23) (S.1 24) (S.1 31) (a 54), -2, -2) i) (j + 1)) = (itN (btI a lv (S.1 23) (S.1 24) (S.1 31) i) (itN (btO a lv (S.1 23) (S.1 24) (S.1 31)) (lR (aQ a) lv (S.1 23) (S.1 24) (S.1 31) (a 54), -2, -2) i) j) from if_neg (by rw [← hM8.1]; exact Int32.not_lt.mpr h86)]; exact hM8
          · skip
            have q10 : ((nI j) + (nI 1)) = (nI (j + 1)) := px_eadd rfl rfl
            refine XG.blk tX2_findMove_ok 45 10 (pc' := 108) (pl' := [some (.ref 0), some (.ref 36), some (.int (nI i)), some (.int ((nI j) + (nI 1))), some (.int (lR (aQ a) lv (S.1 23) (S.1 24) (S.1 31) (upd (a 54) (12 + i) (nI j))))]) (st' := []) (W1 := (pW (va_up (va_up (va_up pv8 0 (lR (aQ a) lv (S.1 23) (S.1 24) (S.1 31) (upd (a 54) (12 + i) (nI j)))) 1 (nI i)) 2 (nI j)) pa gv1 (va_up ga8 6 (upd (ga8 6) i (nI j))) ov oa se3 tv (va_up ta 22 sk3) tb nv na)) (bs := []) rfl rfl rfl ?_
            simp only [q10]
            refine XG.goto eX2_findMove_108 (tgt := 43) (by decide) ?_
            refine XG.weak (pl' := [some (.ref 0), some (.ref 36), some (.int (nI i)), some (.int (nI (j + 1))), none]) ⟨rfl, rfl, rfl, rfl, trivial⟩ ?_
            refine ihj _ _ _ _ (nI j) ?_ hG7
            rw [show (itN (btI a lv (S.1 23) (S.1 24) (S.1 31) i) (itN (btO a lv (S.1 23) (S.1 24) (S.1 31)) (lR (aQ a) lv (S.1 23) (S.1 24) (S.1 31) (a 54), -2, -2) i) (j + 1)) = (lR (aQ a) lv (S.1 23) (S.1 24) (S.1 31) (upd (a 54) (12 + i) (nI j)), nI i, nI j) from if_pos (by rw [← hM8.1]; exact Int32.not_le.mp h86)]
            exact ⟨rfl, fun z => absurd z (nI_nn (by omega)), fun _ => ⟨rfl, rfl⟩⟩
