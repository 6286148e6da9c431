/-! THE CLASS ITSELF: better, cheap, missed, year, weakest, order -/
theorem ng_le {x : Int32} {m : Nat} (h : nI 0 ≤ x ∧ x ≤ nI m) (w : x < 0 ∨ ¬ x ≤ nI m) : False := by
  rcases w with w | w
  · exact Int32.not_lt.mpr h.1 w
  · exact w h.2
theorem zo_ne {P : Prop} [Decidable P] (h : ¬ (if P then (0 : Int32) else 1) = 0) : ¬ P := fun w => h (if_pos w)
theorem zo_eq {P : Prop} [Decidable P] (h : (if P then (0 : Int32) else 1) = 0) : P := by
  by_cases w : P
  · exact w
  · rw [if_neg w] at h; exact absurd h (by decide)
set_option maxHeartbeats 1000000 in
theorem cs_better (d : Nat) (bv : Nat → Int32) (tv : Nat → Int32) (ta : Nat → Nat → Int32) (tb : Nat → Nat → Int64) (uv : Nat → Int32) (ua : Nat → Nat → Int32) (ub : Nat → Nat → Int64) (rv : Nat → Int32) (ra : Nat → Nat → Int32) (rb : Nat → Nat → Int64) (rt : Value) (se : Nat → Int32) (pv : Nat → Int32) (pa : Nat → Nat → Int32) (gv : Nat → Int32) (ga : Nat → Nat → Int32) (ov : Nat → Int32) (oa : Nat → Nat → Int32) (qv : Nat → Int32) (qa : Nat → Nat → Int32) (hv : Nat → Int32) (ha : Nat → Nat → Int32) (nv : Nat → Int32) (na : Nat → Nat → Int32) (yv : Nat → Int32) (ya : Nat → Nat → Int32) (cf : Nat → Int32) (cs : Nat → Int32) (S : SD) (lv : Nat) (v : Nat → Int32) (a : Nat → Nat → Int32) (hX : CX S lv (aQ a) tv ta) (hN : CNt S (a 54) nv na) (what : Int32) (hd : 6 ≤ d) : Con mX8_better d [.ref 0, .int what] (sW bv tv ta tb uv ua ub rv ra rb rt se pv pa gv ga ov oa qv qa hv ha nv na yv ya cf cs) (fun r W' => ∃ pv' pa' gv' ga' ov' oa' se' ta', W' = (sW bv tv ta' tb uv ua ub rv ra rb rt se' pv' pa' gv' ga' ov' oa' qv qa hv ha nv na yv ya cf cs) ∧ chg [22] ta ta' ∧ r = some (.int (qBetter a lv (S.1 23) (S.1 24) (S.1 31) what))) := by
  obtain ⟨hsp, hsp1, hsp2⟩ := hX.sp
  obtain ⟨hsl, hsl2⟩ := hX.sl
  obtain ⟨hcr, hcr2⟩ := hX.cr
  refine Con.of (by decide) (Nat.le_of_ble_eq_true rfl) ?_
  refine XG.blk tX8_better_ok 0 1 (pc' := 1) (pl' := [some (.ref 0), some (.int what)]) (st' := [(.int what)]) (W1 := (sW bv tv ta tb uv ua ub rv ra rb rt se pv pa gv ga ov oa qv qa hv ha nv na yv ya cf cs)) (bs := []) rfl rfl rfl ?_
  refine XG.br eX8_better_1 (P := what < 0) (r := []) rfl (tgt := 9) (by decide) (fun h1 => ?_) (fun h1 => ?_)
  · skip
    refine XG.blk tX8_better_ok 5 1 (pc' := 10) (pl' := [some (.ref 0), some (.int what)]) (st' := [(.int (-1))]) (W1 := (sW bv tv ta tb uv ua ub rv ra rb rt se pv pa gv ga ov oa qv qa hv ha nv na yv ya cf cs)) (bs := []) rfl rfl rfl ?_
    refine XS.iret eX8_better_10 rfl rfl ?_
    refine ⟨_, _, _, _, _, _, _, _, rfl, chg.rf, ?_⟩
    unfold qBetter
    rw [if_neg (fun w => by first | exact ng_le w (Or.inl h1) | exact ng_le w (Or.inr h6))]
  · skip
    refine XG.blk tX8_better_ok 2 2 (pc' := 6) (pl' := [some (.ref 0), some (.int what)]) (st' := [(.int (nI 2)), (.int what)]) (W1 := (sW bv tv ta tb uv ua ub rv ra rb rt se pv pa gv ga ov oa qv qa hv ha nv na yv ya cf cs)) (bs := []) rfl rfl rfl ?_
    refine XG.br eX8_better_6 (P := what ≤ (nI 2)) (r := []) rfl (tgt := 11) (by decide) (fun h6 => ?_) (fun h6 => ?_)
    · skip
      refine XG.blk tX8_better_ok 7 4 (pc' := 19) (pl' := [some (.ref 0), some (.int what)]) (st' := [(.ref 68), (.ref 39)]) (W1 := (sW bv tv ta tb uv ua ub rv ra rb rt se pv pa gv ga ov oa qv qa hv ha nv na yv ya cf cs)) (bs := []) rfl rfl rfl ?_
      refine XG.callV (ro := [39, 40, 41, 42, 43, 44, 45, 46, 47, 48, 49, 50, 51, 52, 53, 54, 55, 56, 57, 37, 38, 1, 2, 3, 4, 5, 6, 7, 8, 9, 10, 11, 12, 13, 14, 15, 68, 69, 70, 71, 72]) (W1 := (pW pv pa gv ga ov oa se tv ta tb nv na)) eX8_better_19 kl_X8_224 (cc_findMove (d - 1) pv pa gv ga ov oa se tv ta tb nv na S lv v a hX hN (by omega)) (px_fitS (by omega)) rfl ⟨rfl, by decide, by decide⟩ rfl rfl (Nat.le_of_ble_eq_true rfl) (fun r9 W9 hp9 hl9 => ?_)
      obtain ⟨pv1, pa1, gv1, ga1, ov1, oa1, se1, sk1, rfl, hM, rfl⟩ := hp9
      rw [pt_sp]
      show XG _ _ _ _ _ _ [(.int (if (btR a lv (S.1 23) (S.1 24) (S.1 31)).2.1 < 0 then 0 else 1))] (sW bv tv (va_up ta 22 sk1) tb uv ua ub rv ra rb rt se1 pv1 pa1 gv1 ga1 ov1 oa1 qv qa hv ha nv na yv ya cf cs)
      refine XG.br eX8_better_22 (P := ¬ (if (btR a lv (S.1 23) (S.1 24) (S.1 31)).2.1 < 0 then 0 else 1) = 0) (r := []) rfl (tgt := 28) (by decide) (fun h22 => ?_) (fun h22 => ?_)
      · skip
        refine XG.blk tX8_better_ok 15 1 (pc' := 29) (pl' := [some (.ref 0), some (.int what)]) (st' := [(.int what)]) (W1 := (sW bv tv (va_up ta 22 sk1) tb uv ua ub rv ra rb rt se1 pv1 pa1 gv1 ga1 ov1 oa1 qv qa hv ha nv na yv ya cf cs)) (bs := []) rfl rfl rfl ?_
        refine XG.br eX8_better_29 (P := ¬ what = 0) (r := []) rfl (tgt := 42) (by decide) (fun h29 => ?_) (fun h29 => ?_)
        · skip
          refine XG.blk tX8_better_ok 21 2 (pc' := 44) (pl' := [some (.ref 0), some (.int what)]) (st' := [(.int (nI 1)), (.int what)]) (W1 := (sW bv tv (va_up ta 22 sk1) tb uv ua ub rv ra rb rt se1 pv1 pa1 gv1 ga1 ov1 oa1 qv qa hv ha nv na yv ya cf cs)) (bs := []) rfl rfl rfl ?_
          refine XG.br eX8_better_44 (P := ¬ what = (nI 1)) (r := []) rfl (tgt := 57) (by decide) (fun h44 => ?_) (fun h44 => ?_)
          · skip
            refine XG.blk tX8_better_ok 28 3 (pc' := 64) (pl' := [some (.ref 0), some (.int what)]) (st' := [(.int (pv1 0))]) (W1 := (sW bv tv (va_up ta 22 sk1) tb uv ua ub rv ra rb rt se1 pv1 pa1 gv1 ga1 ov1 oa1 qv qa hv ha nv na yv ya cf cs)) (bs := []) rfl rfl rfl ?_
            refine XS.iret eX8_better_64 rfl rfl ?_
            refine ⟨_, _, _, _, _, _, _, _, rfl, (chg.up (by decide)), ?_⟩
            unfold qBetter
            rw [if_pos ⟨Int32.not_lt.mp h1, h6⟩]
            rw [if_neg (fun w => w.elim (zo_ne h22) h29)]
            rw [if_neg h44, hM.1]
          · skip
            have h44 := Decidable.not_not.mp h44
            refine XG.blk tX8_better_ok 24 3 (pc' := 54) (pl' := [some (.ref 0), some (.int what)]) (st' := [(.int (pv1 2))]) (W1 := (sW bv tv (va_up ta 22 sk1) tb uv ua ub rv ra rb rt se1 pv1 pa1 gv1 ga1 ov1 oa1 qv qa hv ha nv na yv ya cf cs)) (bs := []) rfl rfl rfl ?_
            refine XG.goto eX8_better_54 (tgt := 64) (by decide) ?_
            refine XS.iret eX8_better_64 rfl rfl ?_
            refine ⟨_, _, _, _, _, _, _, _, rfl, (chg.up (by decide)), ?_⟩
            unfold qBetter
            rw [if_pos ⟨Int32.not_lt.mp h1, h6⟩]
            rw [if_neg (fun w => w.elim (zo_ne h22) h29)]
            rw [if_pos h44, (hM.2.2 (zo_ne h22)).2]
        · skip
          have h29 := Decidable.not_not.mp h29
          refine XG.blk tX8_better_ok 17 3 (pc' := 39) (pl' := [some (.ref 0), some (.int what)]) (st' := [(.int (pv1 1))]) (W1 := (sW bv tv (va_up ta 22 sk1) tb uv ua ub rv ra rb rt se1 pv1 pa1 gv1 ga1 ov1 oa1 qv qa hv ha nv na yv ya cf cs)) (bs := []) rfl rfl rfl ?_
          refine XG.goto eX8_better_39 (tgt := 64) (by decide) ?_
          refine XS.iret eX8_better_64 rfl rfl ?_
          refine ⟨_, _, _, _, _, _, _, _, rfl, (chg.up (by decide)), ?_⟩
          unfold qBetter
          rw [if_pos ⟨Int32.not_lt.mp h1, h6⟩]
          rw [if_pos (Or.inr h29), (hM.2.2 (zo_ne h22)).1]
      · skip
        have h22 := Decidable.not_not.mp h22
        refine XG.blk tX8_better_ok 13 1 (pc' := 27) (pl' := [some (.ref 0), some (.int what)]) (st' := [(.int (-2))]) (W1 := (sW bv tv (va_up ta 22 sk1) tb uv ua ub rv ra rb rt se1 pv1 pa1 gv1 ga1 ov1 oa1 qv qa hv ha nv na yv ya cf cs)) (bs := []) rfl rfl rfl ?_
        refine XS.iret eX8_better_27 rfl rfl ?_
        refine ⟨_, _, _, _, _, _, _, _, rfl, (chg.up (by decide)), ?_⟩
        unfold qBetter
        rw [if_pos ⟨Int32.not_lt.mp h1, h6⟩]
        rw [if_pos (Or.inl (zo_eq h22)), (hM.2.1 (zo_eq h22)).1]
    · skip
      refine XG.blk tX8_better_ok 5 1 (pc' := 10) (pl' := [some (.ref 0), some (.int what)]) (st' := [(.int (-1))]) (W1 := (sW bv tv ta tb uv ua ub rv ra rb rt se pv pa gv ga ov oa qv qa hv ha nv na yv ya cf cs)) (bs := []) rfl rfl rfl ?_
      refine XS.iret eX8_better_10 rfl rfl ?_
      refine ⟨_, _, _, _, _, _, _, _, rfl, chg.rf, ?_⟩
      unfold qBetter
      rw [if_neg (fun w => by first | exact ng_le w (Or.inl h1) | exact ng_le w (Or.inr h6))]
set_option maxHeartbeats 1000000 in
theorem cs_cheap (d : Nat) (bv : Nat → Int32) (tv : Nat → Int32) (ta : Nat → Nat → Int32) (tb : Nat → Nat → Int64) (uv : Nat → Int32) (ua : Nat → Nat → Int32) (ub : Nat → Nat → Int64) (rv : Nat → Int32) (ra : Nat → Nat → Int32) (rb : Nat → Nat → Int64) (rt : Value) (se : Nat → Int32) (pv : Nat → Int32) (pa : Nat → Nat → Int32) (gv : Nat → Int32) (ga : Nat → Nat → Int32) (ov : Nat → Int32) (oa : Nat → Nat → Int32) (qv : Nat → Int32) (qa : Nat → Nat → Int32) (hv : Nat → Int32) (ha : Nat → Nat → Int32) (nv : Nat → Int32) (na : Nat → Nat → Int32) (yv : Nat → Int32) (ya : Nat → Nat → Int32) (cf : Nat → Int32) (cs : Nat → Int32) (S : SD) (lv : Nat) (v : Nat → Int32) (a : Nat → Nat → Int32) (hX : CX S lv (aQ a) tv ta) (hN : CNt S (a 54) nv na) (ld what : Int32) (hd : 6 ≤ d) : Con mX8_cheap d [.ref 0, .int ld, .int what] (sW bv tv ta tb uv ua ub rv ra rb rt se pv pa gv ga ov oa qv qa hv ha nv na yv ya cf cs) (fun r W' => ∃ pv' pa' gv' ga' ov' oa' se' ta', W' = (sW bv tv ta' tb uv ua ub rv ra rb rt se' pv' pa' gv' ga' ov' oa' qv qa hv ha nv na yv ya cf cs) ∧ chg [22] ta ta' ∧ r = some (.int (qCheap a lv (S.1 23) (S.1 24) (S.1 31) ld what))) := by
  obtain ⟨hsp, hsp1, hsp2⟩ := hX.sp
  obtain ⟨hsl, hsl2⟩ := hX.sl
  obtain ⟨hcr, hcr2⟩ := hX.cr
  refine Con.of (by decide) (Nat.le_of_ble_eq_true rfl) ?_
  refine XG.blk tX8_cheap_ok 0 1 (pc' := 1) (pl' := [some (.ref 0), some (.int ld), some (.int what)]) (st' := [(.int ld)]) (W1 := (sW bv tv ta tb uv ua ub rv ra rb rt se pv pa gv ga ov oa qv qa hv ha nv na yv ya cf cs)) (bs := []) rfl rfl rfl ?_
  refine XG.br eX8_cheap_1 (P := ld < 0) (r := []) rfl (tgt := 20) (by decide) (fun h1 => ?_) (fun h1 => ?_)
  · skip
    refine XG.blk tX8_cheap_ok 10 1 (pc' := 21) (pl' := [some (.ref 0), some (.int ld), some (.int what)]) (st' := [(.int (-1))]) (W1 := (sW bv tv ta tb uv ua ub rv ra rb rt se pv pa gv ga ov oa qv qa hv ha nv na yv ya cf cs)) (bs := []) rfl rfl rfl ?_
    refine XS.iret eX8_cheap_21 rfl rfl ?_
    refine ⟨_, _, _, _, _, _, _, _, rfl, chg.rf, ?_⟩
    unfold qCheap
    rw [if_neg (fun w => by first | exact ng_le w.1 (Or.inl h1) | exact Int32.not_lt.mpr w.1.2 h8 | exact ng_le w.2 (Or.inl h12) | exact ng_le w.2 (Or.inr h17))]
  · skip
    refine XG.blk tX8_cheap_ok 2 2 (pc' := 8) (pl' := [some (.ref 0), some (.int ld), some (.int what)]) (st' := [(.int (nI 999)), (.int ld)]) (W1 := (sW bv tv ta tb uv ua ub rv ra rb rt se pv pa gv ga ov oa qv qa hv ha nv na yv ya cf cs)) (bs := []) rfl rfl rfl ?_
    refine XG.br eX8_cheap_8 (P := (nI 999) < ld) (r := []) rfl (tgt := 20) (by decide) (fun h8 => ?_) (fun h8 => ?_)
    · skip
      refine XG.blk tX8_cheap_ok 10 1 (pc' := 21) (pl' := [some (.ref 0), some (.int ld), some (.int what)]) (st' := [(.int (-1))]) (W1 := (sW bv tv ta tb uv ua ub rv ra rb rt se pv pa gv ga ov oa qv qa hv ha nv na yv ya cf cs)) (bs := []) rfl rfl rfl ?_
      refine XS.iret eX8_cheap_21 rfl rfl ?_
      refine ⟨_, _, _, _, _, _, _, _, rfl, chg.rf, ?_⟩
      unfold qCheap
      rw [if_neg (fun w => by first | exact ng_le w.1 (Or.inl h1) | exact Int32.not_lt.mpr w.1.2 h8 | exact ng_le w.2 (Or.inl h12) | exact ng_le w.2 (Or.inr h17))]
    · skip
      refine XG.blk tX8_cheap_ok 5 1 (pc' := 12) (pl' := [some (.ref 0), some (.int ld), some (.int what)]) (st' := [(.int what)]) (W1 := (sW bv tv ta tb uv ua ub rv ra rb rt se pv pa gv ga ov oa qv qa hv ha nv na yv ya cf cs)) (bs := []) rfl rfl rfl ?_
      refine XG.br eX8_cheap_12 (P := what < 0) (r := []) rfl (tgt := 20) (by decide) (fun h12 => ?_) (fun h12 => ?_)
      · skip
        refine XG.blk tX8_cheap_ok 10 1 (pc' := 21) (pl' := [some (.ref 0), some (.int ld), some (.int what)]) (st' := [(.int (-1))]) (W1 := (sW bv tv ta tb uv ua ub rv ra rb rt se pv pa gv ga ov oa qv qa hv ha nv na yv ya cf cs)) (bs := []) rfl rfl rfl ?_
        refine XS.iret eX8_cheap_21 rfl rfl ?_
        refine ⟨_, _, _, _, _, _, _, _, rfl, chg.rf, ?_⟩
        unfold qCheap
        rw [if_neg (fun w => by first | exact ng_le w.1 (Or.inl h1) | exact Int32.not_lt.mpr w.1.2 h8 | exact ng_le w.2 (Or.inl h12) | exact ng_le w.2 (Or.inr h17))]
      · skip
        refine XG.blk tX8_cheap_ok 7 2 (pc' := 17) (pl' := [some (.ref 0), some (.int ld), some (.int what)]) (st' := [(.int (nI 1)), (.int what)]) (W1 := (sW bv tv ta tb uv ua ub rv ra rb rt se pv pa gv ga ov oa qv qa hv ha nv na yv ya cf cs)) (bs := []) rfl rfl rfl ?_
        refine XG.br eX8_cheap_17 (P := what ≤ (nI 1)) (r := []) rfl (tgt := 22) (by decide) (fun h17 => ?_) (fun h17 => ?_)
        · skip
          refine XG.blk tX8_cheap_ok 12 5 (pc' := 31) (pl' := [some (.ref 0), some (.int ld), some (.int what)]) (st' := [(.int ld), (.ref 68), (.ref 39)]) (W1 := (sW bv tv ta tb uv ua ub rv ra rb rt se pv pa gv ga ov oa qv qa hv ha nv na yv ya cf cs)) (bs := []) rfl rfl rfl ?_
          refine XG.callV (ro := [39, 40, 41, 42, 43, 44, 45, 46, 47, 48, 49, 50, 51, 52, 53, 54, 55, 56, 57, 37, 38, 1, 2, 3, 4, 5, 6, 7, 8, 9, 10, 11, 12, 13, 14, 15, 68, 69, 70, 71, 72]) (W1 := (pW pv pa gv ga ov oa se tv ta tb nv na)) eX8_cheap_31 kl_X8_237 (cc_findCheapest (d - 1) pv pa gv ga ov oa se tv ta tb nv na S lv v a hX hN ld (by omega)) (px_fitS (by omega)) rfl ⟨rfl, by decide, by decide⟩ rfl rfl (Nat.le_of_ble_eq_true rfl) (fun r9 W9 hp9 hl9 => ?_)
          obtain ⟨pv1, pa1, gv1, ga1, ov1, oa1, se1, sk1, rfl, hM, rfl⟩ := hp9
          rw [pt_sp]
          show XG _ _ _ _ _ _ [(.int (if (chR a lv (S.1 23) (S.1 24) (S.1 31) ld).1 < 0 then 0 else 1))] (sW bv tv (va_up ta 22 sk1) tb uv ua ub rv ra rb rt se1 pv1 pa1 gv1 ga1 ov1 oa1 qv qa hv ha nv na yv ya cf cs)
          refine XG.br eX8_cheap_34 (P := ¬ (if (chR a lv (S.1 23) (S.1 24) (S.1 31) ld).1 < 0 then 0 else 1) = 0) (r := []) rfl (tgt := 40) (by decide) (fun h34 => ?_) (fun h34 => ?_)
          · skip
            refine XG.blk tX8_cheap_ok 21 1 (pc' := 41) (pl' := [some (.ref 0), some (.int ld), some (.int what)]) (st' := [(.int what)]) (W1 := (sW bv tv (va_up ta 22 sk1) tb uv ua ub rv ra rb rt se1 pv1 pa1 gv1 ga1 ov1 oa1 qv qa hv ha nv na yv ya cf cs)) (bs := []) rfl rfl rfl ?_
            refine XG.br eX8_cheap_41 (P := ¬ what = 0) (r := []) rfl (tgt := 54) (by decide) (fun h41 => ?_) (fun h41 => ?_)
            · skip
              refine XG.blk tX8_cheap_ok 27 3 (pc' := 61) (pl' := [some (.ref 0), some (.int ld), some (.int what)]) (st' := [(.int (pv1 1))]) (W1 := (sW bv tv (va_up ta 22 sk1) tb uv ua ub rv ra rb rt se1 pv1 pa1 gv1 ga1 ov1 oa1 qv qa hv ha nv na yv ya cf cs)) (bs := []) rfl rfl rfl ?_
              refine XS.iret eX8_cheap_61 rfl rfl ?_
              refine ⟨_, _, _, _, _, _, _, _, rfl, (chg.up (by decide)), ?_⟩
              unfold qCheap
              rw [if_pos ⟨⟨Int32.not_lt.mp h1, Int32.not_lt.mp h8⟩, ⟨Int32.not_lt.mp h12, h17⟩⟩]
              rw [if_neg h41, (hM.2 (zo_ne h34)).1]
            · skip
              have h41 := Decidable.not_not.mp h41
              refine XG.blk tX8_cheap_ok 23 3 (pc' := 51) (pl' := [some (.ref 0), some (.int ld), some (.int what)]) (st' := [(.int (pv1 3))]) (W1 := (sW bv tv (va_up ta 22 sk1) tb uv ua ub rv ra rb rt se1 pv1 pa1 gv1 ga1 ov1 oa1 qv qa hv ha nv na yv ya cf cs)) (bs := []) rfl rfl rfl ?_
              refine XG.goto eX8_cheap_51 (tgt := 61) (by decide) ?_
              refine XS.iret eX8_cheap_61 rfl rfl ?_
              refine ⟨_, _, _, _, _, _, _, _, rfl, (chg.up (by decide)), ?_⟩
              unfold qCheap
              rw [if_pos ⟨⟨Int32.not_lt.mp h1, Int32.not_lt.mp h8⟩, ⟨Int32.not_lt.mp h12, h17⟩⟩]
              rw [if_pos h41, (hM.2 (zo_ne h34)).2]
          · skip
            have h34 := Decidable.not_not.mp h34
            refine XG.blk tX8_cheap_ok 19 1 (pc' := 39) (pl' := [some (.ref 0), some (.int ld), some (.int what)]) (st' := [(.int (-2))]) (W1 := (sW bv tv (va_up ta 22 sk1) tb uv ua ub rv ra rb rt se1 pv1 pa1 gv1 ga1 ov1 oa1 qv qa hv ha nv na yv ya cf cs)) (bs := []) rfl rfl rfl ?_
            refine XS.iret eX8_cheap_39 rfl rfl ?_
            refine ⟨_, _, _, _, _, _, _, _, rfl, (chg.up (by decide)), ?_⟩
            unfold qCheap
            rw [if_pos ⟨⟨Int32.not_lt.mp h1, Int32.not_lt.mp h8⟩, ⟨Int32.not_lt.mp h12, h17⟩⟩]
            rw [(hM.1 (zo_eq h34)).1]
            by_cases hw : what = 0
            · rw [if_pos hw]
            · rw [if_neg hw]
        · skip
          refine XG.blk tX8_cheap_ok 10 1 (pc' := 21) (pl' := [some (.ref 0), some (.int ld), some (.int what)]) (st' := [(.int (-1))]) (W1 := (sW bv tv ta tb uv ua ub rv ra rb rt se pv pa gv ga ov oa qv qa hv ha nv na yv ya cf cs)) (bs := []) rfl rfl rfl ?_
          refine XS.iret eX8_cheap_21 rfl rfl ?_
          refine ⟨_, _, _, _, _, _, _, _, rfl, chg.rf, ?_⟩
          unfold qCheap
          rw [if_neg (fun w => by first | exact ng_le w.1 (Or.inl h1) | exact Int32.not_lt.mpr w.1.2 h8 | exact ng_le w.2 (Or.inl h12) | exact ng_le w.2 (Or.inr h17))]
theorem ms_none {S : SD} {lv : Nat} {a : Nat → Nat → Int32} {tv : Nat → Int32} {ta : Nat → Nat → Int32} {nv : Nat → Int32} {na : Nat → Nat → Int32} (hX : CX S lv (aQ a) tv ta) (hN : CNt S (a 54) nv na) (h : nv 4 = 0) : msR a lv (S.1 23) (S.1 24) (S.1 31) = (-2, -2) := by
  have hsl := hX.sl.2
  have hd : a 35 lv = nI (S.1 35) := hX.dw.2.2
  have e0 : itN (asleepF (a 54) (a 35 lv)) 0 (S.1 24) = 0 := by rw [hd, asl_mk _ _ hsl, ← hN.2.2.2.2.1, h]
  unfold msR
  rw [e0]
  have hz : ∀ j : Fin 6, ((0 : Int32) >>> (nI j.val &&& 31)) &&& nI 1 = 0 := by decide +kernel
  have : ∀ n, n ≤ S.1 24 → itN (msF (aQ a) lv (S.1 23) (S.1 24) (S.1 31) (a 54) 0) ((-2), (-2)) n = (-2, -2) := by
    intro n
    induction n with
    | zero => intro _; rfl
    | succ n ih =>
      intro hn
      show msF (aQ a) lv (S.1 23) (S.1 24) (S.1 31) (a 54) 0 n (itN (msF (aQ a) lv (S.1 23) (S.1 24) (S.1 31) (a 54) 0) ((-2), (-2)) n) = _
      rw [ih (by omega), msF_eq]
      exact if_pos (hz ⟨n, by omega⟩)
  exact this _ (Nat.le_refl _)
theorem ms_some {S : SD} {lv : Nat} {a : Nat → Nat → Int32} {tv : Nat → Int32} {ta : Nat → Nat → Int32} {nv : Nat → Int32} {na : Nat → Nat → Int32} (hX : CX S lv (aQ a) tv ta) (hN : CNt S (a 54) nv na) (h : ¬ nv 4 = 0) : ¬ (msR a lv (S.1 23) (S.1 24) (S.1 31)).1 < 0 := by
  have hsl := hX.sl.2
  rw [msR_al hX]
  have hne : ∃ k, k < S.1 24 ∧ slpB (a 54) (nI (S.1 35)) k = true := by
    refine Classical.byContradiction (fun w => h ?_)
    rw [hN.2.2.2.2.1, mkN_z.mpr (cB_0.mpr (fun k hk => by
      cases e : slpB (a 54) (nI (S.1 35)) k
      · rfl
      · exact absurd ⟨k, hk, e⟩ w))]
    rfl
  obtain ⟨k, hk, hb⟩ := hne
  have hA : aslN S (a 54) < 64 := mkN_64 hsl
  have hb2 : (nI (aslN S (a 54)) >>> (nI k &&& 31)) &&& nI 1 = if (aslN S (a 54)).testBit k = true then 1 else 0 := bit_all ⟨aslN S (a 54), hA⟩ ⟨k, by omega⟩
  have hb3 : (aslN S (a 54)).testBit k = true := by
    have e : (mkN (slpB (a 54) (nI (S.1 35))) (S.1 24)).testBit k = true := by rw [mkN_bit, hb, decide_eq_true hk]; rfl
    exact e
  have hbit : ¬ ((nI (aslN S (a 54)) >>> (nI k &&& 31)) &&& nI 1 = 0) := by
    rw [hb2, if_pos hb3]; decide
  have : ∀ n, n ≤ S.1 24 → k < n → ¬ (itN (msF (aQ a) lv (S.1 23) (S.1 24) (S.1 31) (a 54) (nI (aslN S (a 54)))) ((-2), (-2)) n).1 < 0 := by
    intro n
    induction n with
    | zero => intro _ h0; exact absurd h0 (Nat.not_lt_zero _)
    | succ n ih =>
      intro hn hkn
      show ¬ (msF (aQ a) lv (S.1 23) (S.1 24) (S.1 31) (a 54) (nI (aslN S (a 54))) n (itN (msF (aQ a) lv (S.1 23) (S.1 24) (S.1 31) (a 54) (nI (aslN S (a 54)))) ((-2), (-2)) n)).1 < 0
      rw [msF_eq]
      by_cases hz : ((nI (aslN S (a 54)) >>> (nI n &&& 31)) &&& nI 1) = 0
      · rw [if_pos hz]
        by_cases hkn2 : k = n
        · rw [hkn2] at hbit; exact absurd hz hbit
        · exact ih (by omega) (by omega)
      · rw [if_neg hz]
        split
        · show ¬ nI n < 0
          exact nI_nn (by omega)
        · rename_i w; exact fun z => w (Or.inl z)
  exact this _ (Nat.le_refl _) hk
set_option maxHeartbeats 1000000 in
theorem cs_missed (d : Nat) (bv : Nat → Int32) (tv : Nat → Int32) (ta : Nat → Nat → Int32) (tb : Nat → Nat → Int64) (uv : Nat → Int32) (ua : Nat → Nat → Int32) (ub : Nat → Nat → Int64) (rv : Nat → Int32) (ra : Nat → Nat → Int32) (rb : Nat → Nat → Int64) (rt : Value) (se : Nat → Int32) (pv : Nat → Int32) (pa : Nat → Nat → Int32) (gv : Nat → Int32) (ga : Nat → Nat → Int32) (ov : Nat → Int32) (oa : Nat → Nat → Int32) (qv : Nat → Int32) (qa : Nat → Nat → Int32) (hv : Nat → Int32) (ha : Nat → Nat → Int32) (nv : Nat → Int32) (na : Nat → Nat → Int32) (yv : Nat → Int32) (ya : Nat → Nat → Int32) (cf : Nat → Int32) (cs : Nat → Int32) (S : SD) (lv : Nat) (v : Nat → Int32) (a : Nat → Nat → Int32) (hX : CX S lv (aQ a) tv ta) (hN : CNt S (a 54) nv na) (what : Int32) (hd : 6 ≤ d) : Con mX8_missed d [.ref 0, .int what] (sW bv tv ta tb uv ua ub rv ra rb rt se pv pa gv ga ov oa qv qa hv ha nv na yv ya cf cs) (fun r W' => ∃ pv' pa' gv' ga' ov' oa' se' ta', W' = (sW bv tv ta' tb uv ua ub rv ra rb rt se' pv' pa' gv' ga' ov' oa' qv qa hv ha nv na yv ya cf cs) ∧ chg [22] ta ta' ∧ r = some (.int (qMissed a lv (S.1 23) (S.1 24) (S.1 31) what))) := by
  obtain ⟨hsp, hsp1, hsp2⟩ := hX.sp
  obtain ⟨hsl, hsl2⟩ := hX.sl
  obtain ⟨hcr, hcr2⟩ := hX.cr
  refine Con.of (by decide) (Nat.le_of_ble_eq_true rfl) ?_
  refine XG.blk tX8_missed_ok 0 1 (pc' := 1) (pl' := [some (.ref 0), some (.int what)]) (st' := [(.int what)]) (W1 := (sW bv tv ta tb uv ua ub rv ra rb rt se pv pa gv ga ov oa qv qa hv ha nv na yv ya cf cs)) (bs := []) rfl rfl rfl ?_
  refine XG.br eX8_missed_1 (P := what < 0) (r := []) rfl (tgt := 9) (by decide) (fun h1 => ?_) (fun h1 => ?_)
  · skip
    refine XG.blk tX8_missed_ok 5 1 (pc' := 10) (pl' := [some (.ref 0), some (.int what)]) (st' := [(.int (-1))]) (W1 := (sW bv tv ta tb uv ua ub rv ra rb rt se pv pa gv ga ov oa qv qa hv ha nv na yv ya cf cs)) (bs := []) rfl rfl rfl ?_
    refine XS.iret eX8_missed_10 rfl rfl ?_
    refine ⟨_, _, _, _, _, _, _, _, rfl, chg.rf, ?_⟩
    unfold qMissed
    rw [if_neg (fun w => by first | exact ng_le w (Or.inl h1) | exact ng_le w (Or.inr h6))]
  · skip
    refine XG.blk tX8_missed_ok 2 2 (pc' := 6) (pl' := [some (.ref 0), some (.int what)]) (st' := [(.int (nI 1)), (.int what)]) (W1 := (sW bv tv ta tb uv ua ub rv ra rb rt se pv pa gv ga ov oa qv qa hv ha nv na yv ya cf cs)) (bs := []) rfl rfl rfl ?_
    refine XG.br eX8_missed_6 (P := what ≤ (nI 1)) (r := []) rfl (tgt := 11) (by decide) (fun h6 => ?_) (fun h6 => ?_)
    · skip
      refine XG.blk tX8_missed_ok 7 3 (pc' := 18) (pl' := [some (.ref 0), some (.int what)]) (st' := [(.int (nv 4))]) (W1 := (sW bv tv ta tb uv ua ub rv ra rb rt se pv pa gv ga ov oa qv qa hv ha nv na yv ya cf cs)) (bs := []) rfl rfl rfl ?_
      refine XG.br eX8_missed_18 (P := ¬ (nv 4) = 0) (r := []) rfl (tgt := 24) (by decide) (fun h18 => ?_) (fun h18 => ?_)
      · skip
        refine XG.blk tX8_missed_ok 13 4 (pc' := 32) (pl' := [some (.ref 0), some (.int what)]) (st' := [(.ref 68), (.ref 39)]) (W1 := (sW bv tv ta tb uv ua ub rv ra rb rt se pv pa gv ga ov oa qv qa hv ha nv na yv ya cf cs)) (bs := []) rfl rfl rfl ?_
        refine XG.callV (ro := [39, 40, 41, 42, 43, 44, 45, 46, 47, 48, 49, 50, 51, 52, 53, 54, 55, 56, 57, 37, 38, 1, 2, 3, 4, 5, 6, 7, 8, 9, 10, 11, 12, 13, 14, 15, 68, 69, 70, 71, 72]) (W1 := (pW pv pa gv ga ov oa se tv ta tb nv na)) eX8_missed_32 kl_X8_256 (cc_findMissed (d - 1) pv pa gv ga ov oa se tv ta tb nv na S lv v a hX hN (by omega)) (px_fitS (by omega)) rfl ⟨rfl, by decide, by decide⟩ rfl rfl (Nat.le_of_ble_eq_true rfl) (fun r9 W9 hp9 hl9 => ?_)
        obtain ⟨pv1, pa1, gv1, ga1, ov1, oa1, se1, sk1, rfl, hM, rfl⟩ := hp9
        rw [pt_sp]
        show XG _ _ _ _ _ _ [] (sW bv tv (va_up ta 22 sk1) tb uv ua ub rv ra rb rt se1 pv1 pa1 gv1 ga1 ov1 oa1 qv qa hv ha nv na yv ya cf cs)
        refine XG.blk tX8_missed_ok 18 1 (pc' := 36) (pl' := [some (.ref 0), some (.int what)]) (st' := [(.int what)]) (W1 := (sW bv tv (va_up ta 22 sk1) tb uv ua ub rv ra rb rt se1 pv1 pa1 gv1 ga1 ov1 oa1 qv qa hv ha nv na yv ya cf cs)) (bs := []) rfl rfl rfl ?_
        refine XG.br eX8_missed_36 (P := ¬ what = 0) (r := []) rfl (tgt := 49) (by decide) (fun h36 => ?_) (fun h36 => ?_)
        · skip
          refine XG.blk tX8_missed_ok 24 3 (pc' := 56) (pl' := [some (.ref 0), some (.int what)]) (st' := [(.int (pv1 0))]) (W1 := (sW bv tv (va_up ta 22 sk1) tb uv ua ub rv ra rb rt se1 pv1 pa1 gv1 ga1 ov1 oa1 qv qa hv ha nv na yv ya cf cs)) (bs := []) rfl rfl rfl ?_
          refine XS.iret eX8_missed_56 rfl rfl ?_
          refine ⟨_, _, _, _, _, _, _, _, rfl, (chg.up (by decide)), ?_⟩
          unfold qMissed
          rw [if_pos ⟨Int32.not_lt.mp h1, h6⟩]
          rw [if_neg h36, (hM.2 (ms_some hX hN h18)).2]
        · skip
          have h36 := Decidable.not_not.mp h36
          refine XG.blk tX8_missed_ok 20 3 (pc' := 46) (pl' := [some (.ref 0), some (.int what)]) (st' := [(.int (pv1 1))]) (W1 := (sW bv tv (va_up ta 22 sk1) tb uv ua ub rv ra rb rt se1 pv1 pa1 gv1 ga1 ov1 oa1 qv qa hv ha nv na yv ya cf cs)) (bs := []) rfl rfl rfl ?_
          refine XG.goto eX8_missed_46 (tgt := 56) (by decide) ?_
          refine XS.iret eX8_missed_56 rfl rfl ?_
          refine ⟨_, _, _, _, _, _, _, _, rfl, (chg.up (by decide)), ?_⟩
          unfold qMissed
          rw [if_pos ⟨Int32.not_lt.mp h1, h6⟩]
          rw [if_pos h36, (hM.2 (ms_some hX hN h18)).1]
      · skip
        have h18 := Decidable.not_not.mp h18
        refine XG.blk tX8_missed_ok 11 1 (pc' := 23) (pl' := [some (.ref 0), some (.int what)]) (st' := [(.int (-2))]) (W1 := (sW bv tv ta tb uv ua ub rv ra rb rt se pv pa gv ga ov oa qv qa hv ha nv na yv ya cf cs)) (bs := []) rfl rfl rfl ?_
        refine XS.iret eX8_missed_23 rfl rfl ?_
        refine ⟨_, _, _, _, _, _, _, _, rfl, chg.rf, ?_⟩
        unfold qMissed
        rw [if_pos ⟨Int32.not_lt.mp h1, h6⟩, ms_none hX hN h18]
        by_cases hw : what = 0
        · rw [if_pos hw]
        · rw [if_neg hw]
    · skip
      refine XG.blk tX8_missed_ok 5 1 (pc' := 10) (pl' := [some (.ref 0), some (.int what)]) (st' := [(.int (-1))]) (W1 := (sW bv tv ta tb uv ua ub rv ra rb rt se pv pa gv ga ov oa qv qa hv ha nv na yv ya cf cs)) (bs := []) rfl rfl rfl ?_
      refine XS.iret eX8_missed_10 rfl rfl ?_
      refine ⟨_, _, _, _, _, _, _, _, rfl, chg.rf, ?_⟩
      unfold qMissed
      rw [if_neg (fun w => by first | exact ng_le w (Or.inl h1) | exact ng_le w (Or.inr h6))]
