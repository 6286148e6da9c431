/-! THE CLASS: parse, another text behind -/
def xY (tv : Nat → Int32) (ta : Nat → Nat → Int32) (tb : Nat → Nat → Int64) (uv : Nat → Int32) (ua : Nat → Nat → Int32) (ub : Nat → Nat → Int64) : px_W := [.inr (7, [.int (tv 0), .int (tv 1), .int (tv 2), .int (tv 3), .int (tv 4), .int (tv 5), .int (tv 6), .ref 7, .ref 8, .ref 9, .ref 10, .ref 11, .ref 12, .ref 13, .ref 14, .ref 15, .ref 16, .ref 17]), .inl (.long, 6, .inr (.inl (tb 7))), .inl (.int, 6, .inl (ta 8)), .inl (.int, 6, .inl (ta 9)), .inl (.int, 6, .inl (ta 10)), .inl (.int, 6, .inl (ta 11)), .inl (.int, 6, .inl (ta 12)), .inl (.long, 5, .inr (.inl (tb 13))), .inl (.int, 5, .inl (ta 14)), .inl (.int, 5, .inl (ta 15)), .inl (.int, 5, .inl (ta 16)), .inr (0, [.ref 18, .ref 19, .ref 20, .int (tv 20)]), .inl (.int, 404, .inl (ta 20)), .inl (.int, 3, .inl (ta 21)), .inl (.int, 32, .inl (ta 22)), .inr (7, [.int (uv 0), .int (uv 1), .int (uv 2), .int (uv 3), .int (uv 4), .int (uv 5), .int (uv 6), .ref 22, .ref 23, .ref 24, .ref 25, .ref 26, .ref 27, .ref 28, .ref 29, .ref 30, .ref 31, .ref 32]), .inl (.long, 6, .inr (.inl (ub 7))), .inl (.int, 6, .inl (ua 8)), .inl (.int, 6, .inl (ua 9)), .inl (.int, 6, .inl (ua 10)), .inl (.int, 6, .inl (ua 11)), .inl (.int, 6, .inl (ua 12)), .inl (.long, 5, .inr (.inl (ub 13))), .inl (.int, 5, .inl (ua 14)), .inl (.int, 5, .inl (ua 15)), .inl (.int, 5, .inl (ua 16)), .inr (0, [.ref 33, .ref 34, .ref 35, .int (uv 20)]), .inl (.int, 404, .inl (ua 20)), .inl (.int, 3, .inl (ua 21)), .inl (.int, 32, .inl (ua 22))]
set_option maxHeartbeats 1000000 in
theorem pt_ey (rv : Nat → Int32) (ra : Nat → Nat → Int32) (rb : Nat → Nat → Int64) (tv : Nat → Int32) (ta : Nat → Nat → Int32) (tb : Nat → Nat → Int64) (uv : Nat → Int32) (ua : Nat → Nat → Int32) (ub : Nat → Nat → Int64) (tv' : Nat → Int32) (ta' : Nat → Nat → Int32) (tb' : Nat → Nat → Int64) : px_pt (px_f [6, 7, 8, 9, 10, 11, 12, 13, 14, 15, 16, 17, 18, 19, 20]) [6, 7, 8, 9, 10, 11, 12, 13, 14, 15, 16, 17, 18, 19, 20] (tW tv' ta' tb') (dW rv ra rb (.ref 6) (xY tv ta tb uv ua ub)) = dW rv ra rb (.ref 6) (xY tv' ta' tb' uv ua ub) := by
  unfold dW xY tW
  simp only [px_pt, List.set_cons_succ, List.set_cons_zero]
  rfl
set_option maxHeartbeats 1000000 in
theorem pt_yx (rv : Nat → Int32) (ra : Nat → Nat → Int32) (rb : Nat → Nat → Int64) (tv : Nat → Int32) (ta : Nat → Nat → Int32) (tb : Nat → Nat → Int64) (uv : Nat → Int32) (ua : Nat → Nat → Int32) (ub : Nat → Nat → Int64) (rv' : Nat → Int32) (ra' : Nat → Nat → Int32) (rb' : Nat → Nat → Int64) (tv' : Nat → Int32) (ta' : Nat → Nat → Int32) (tb' : Nat → Nat → Int64) : px_pt (px_f [0, 1, 2, 3, 4, 5, 6, 7, 8, 9, 10, 11, 12, 13, 14, 15, 16, 17, 18, 19, 20]) [0, 1, 2, 3, 4, 5, 6, 7, 8, 9, 10, 11, 12, 13, 14, 15, 16, 17, 18, 19, 20] (dW rv' ra' rb' (.ref 6) (xW tv' ta' tb')) (dW rv ra rb (.ref 6) (xY tv ta tb uv ua ub)) = dW rv' ra' rb' (.ref 6) (xY tv' ta' tb' uv ua ub) := by
  unfold dW xY xW
  simp only [px_pt, List.set_cons_succ, List.set_cons_zero]
  rfl
set_option maxHeartbeats 1000000 in
theorem pb_F (d : Nat) (rv0 : Nat → Int32) (ra0 : Nat → Nat → Int32) (rb0 : Nat → Nat → Int64) (rv : Nat → Int32) (ra : Nat → Nat → Int32) (rb : Nat → Nat → Int64) (tv : Nat → Int32) (ta : Nat → Nat → Int32) (tb : Nat → Nat → Int64) (uv : Nat → Int32) (ua : Nat → Nat → Int32) (ub : Nat → Nat → Int64) (K : TKS) (hT : CTk K ra rb) (hcw : chg [1, 7, 8, 9, 10, 11] rv0 rv) (ha2 : ra 2 = ra0 2) (hb3 : rb 3 = rb0 3) (e : PE) (hTT : (txtS K 400 ((0, none), plainD)) = .inl e) (hP : PVc K (.inl e) rv) (hfq : Fq tv) (hd : 1 ≤ d) : XG mX3_parse (px_gS d (fun r W' => ∃ x rv' ra' rb' tv' ta' tb', W' = dW rv' ra' rb' (.ref 6) (xY tv' ta' tb' uv ua ub) ∧ chg [1, 7, 8, 9, 10, 11] rv0 rv' ∧ ra' 2 = ra0 2 ∧ rb' 3 = rb0 3 ∧ rdQ K x rv' tv' ta' tb' ∧ r = some (.int x))) 0 0 69 [some (.ref 0), some (.ref 6), none] [] (dW rv ra rb (.ref 6) (xY tv ta tb uv ua ub)) := by
  obtain ⟨m, sz, hm, hm6, -⟩ := hfq
  refine XG.blk tX3_parse_ok 35 2 (pc' := 73) (pl' := [some (.ref 0), some (.ref 6), none]) (st' := [(.ref 6)]) (W1 := (dW rv ra rb (.ref 6) (xY tv ta tb uv ua ub))) (bs := []) rfl rfl rfl ?_
  refine XG.callV (ro := [6, 7, 8, 9, 10, 11, 12, 13, 14, 15, 16, 17, 18, 19, 20]) (W1 := (tW tv ta tb)) eX3_parse_73 kl_X3_75 (cc_someLie (d - 1) tv ta tb m hm hm6) (px_fitS (by omega)) rfl ⟨rfl, by decide, by decide⟩ rfl rfl (Nat.le_of_ble_eq_true rfl) (fun r9 W9 hp9 hl9 => ?_)
  obtain ⟨rfl, rfl⟩ := hp9
  rw [pt_ey]
  show XG _ _ _ _ _ _ [(.int (if (findN (fun i => decide (tv 0 ≤ ta 11 i)) m 0).isSome = true then 1 else 0))] (dW rv ra rb (.ref 6) (xY tv ta tb uv ua ub))
  refine XG.br eX3_parse_76 (P := (if (findN (fun i => decide (tv 0 ≤ ta 11 i)) m 0).isSome = true then 1 else 0) = 0) (r := []) rfl (tgt := 88) (by decide) (fun h76 => ?_) (fun h76 => ?_)
  · skip
    refine XG.blk tX3_parse_ok 44 2 (pc' := 92) (pl' := [some (.ref 0), some (.ref 6), none]) (st' := [(.int (rv 9))]) (W1 := (dW rv ra rb (.ref 6) (xY tv ta tb uv ua ub))) (bs := []) rfl rfl rfl ?_
    refine XG.br eX3_parse_92 (P := ¬ (rv 9) = 0) (r := []) rfl (tgt := 118) (by decide) (fun h92 => ?_) (fun h92 => ?_)
    · skip
      refine XG.blk tX3_parse_ok 58 2 (pc' := 122) (pl' := [some (.ref 0), some (.ref 6), none]) (st' := [(.int (rv 9))]) (W1 := (dW rv ra rb (.ref 6) (xY tv ta tb uv ua ub))) (bs := []) rfl rfl rfl ?_
      refine XG.br eX3_parse_122 (P := ¬ (rv 9) = 0) (r := []) rfl (tgt := 130) (by decide) (fun h122 => ?_) (fun h122 => ?_)
      · skip
        refine XG.blk tX3_parse_ok 64 2 (pc' := 134) (pl' := [some (.ref 0), some (.ref 6), none]) (st' := [(.int (rv 9))]) (W1 := (dW rv ra rb (.ref 6) (xY tv ta tb uv ua ub))) (bs := []) rfl rfl rfl ?_
        refine XS.iret eX3_parse_134 rfl rfl ?_
        exact ⟨_, _, _, _, _, _, _, rfl, hcw, ha2, hb3, rdQ_F hTT hP, rfl⟩
      · exfalso
        have h122 := Decidable.not_not.mp h122
        first | exact hP.no h92 | exact (hP.ntI _ _).no h92 | exact hP.no h122 | exact (hP.ntI _ _).no h122
    · exfalso
      have h92 := Decidable.not_not.mp h92
      first | exact hP.no h92 | exact (hP.ntI _ _).no h92 | exact hP.no h122 | exact (hP.ntI _ _).no h122
  · skip
    refine XG.blk tX3_parse_ok 39 4 (pc' := 85) (pl' := [some (.ref 0), some (.ref 6), none]) (st' := [(.int (rv 0)), (.int (nI 5)), (.ref 0)]) (W1 := (dW rv ra rb (.ref 6) (xY tv ta tb uv ua ub))) (bs := []) rfl rfl rfl ?_
    refine XG.callV0 eX3_parse_85 kl_X3_79 (cc_noteLater (d - 1) rv ra rb (.ref 6) (xY tv ta tb uv ua ub) (nI 5) (rv 0)) (px_fitS (by omega)) rfl rfl rfl (Nat.le_of_ble_eq_true rfl) (fun r9 W9 hp9 hl9 => ?_)
    obtain ⟨rfl, rfl⟩ := hp9
    show XG _ _ _ _ _ _ [] (dW (ntV rv (nI 5) (rv 0)) ra rb (.ref 6) (xY tv ta tb uv ua ub))
    refine XG.blk tX3_parse_ok 44 2 (pc' := 92) (pl' := [some (.ref 0), some (.ref 6), none]) (st' := [(.int ((ntV rv (nI 5) (rv 0)) 9))]) (W1 := (dW (ntV rv (nI 5) (rv 0)) ra rb (.ref 6) (xY tv ta tb uv ua ub))) (bs := []) rfl rfl rfl ?_
    refine XG.br eX3_parse_92 (P := ¬ ((ntV rv (nI 5) (rv 0)) 9) = 0) (r := []) rfl (tgt := 118) (by decide) (fun h92 => ?_) (fun h92 => ?_)
    · skip
      refine XG.blk tX3_parse_ok 58 2 (pc' := 122) (pl' := [some (.ref 0), some (.ref 6), none]) (st' := [(.int ((ntV rv (nI 5) (rv 0)) 9))]) (W1 := (dW (ntV rv (nI 5) (rv 0)) ra rb (.ref 6) (xY tv ta tb uv ua ub))) (bs := []) rfl rfl rfl ?_
      refine XG.br eX3_parse_122 (P := ¬ ((ntV rv (nI 5) (rv 0)) 9) = 0) (r := []) rfl (tgt := 130) (by decide) (fun h122 => ?_) (fun h122 => ?_)
      · skip
        refine XG.blk tX3_parse_ok 64 2 (pc' := 134) (pl' := [some (.ref 0), some (.ref 6), none]) (st' := [(.int ((ntV rv (nI 5) (rv 0)) 9))]) (W1 := (dW (ntV rv (nI 5) (rv 0)) ra rb (.ref 6) (xY tv ta tb uv ua ub))) (bs := []) rfl rfl rfl ?_
        refine XS.iret eX3_parse_134 rfl rfl ?_
        exact ⟨_, _, _, _, _, _, _, rfl, (hcw.tr (ntV_chg.mono (by decide))), ha2, hb3, rdQ_F hTT (hP.ntI _ _), rfl⟩
      · exfalso
        have h122 := Decidable.not_not.mp h122
        first | exact hP.no h92 | exact (hP.ntI _ _).no h92 | exact hP.no h122 | exact (hP.ntI _ _).no h122
    · exfalso
      have h92 := Decidable.not_not.mp h92
      first | exact hP.no h92 | exact (hP.ntI _ _).no h92 | exact hP.no h122 | exact (hP.ntI _ _).no h122
set_option maxHeartbeats 1000000 in
theorem pb_O (d : Nat) (rv0 : Nat → Int32) (ra0 : Nat → Nat → Int32) (rb0 : Nat → Nat → Int64) (rv : Nat → Int32) (ra : Nat → Nat → Int32) (rb : Nat → Nat → Int64) (tv : Nat → Int32) (ta : Nat → Nat → Int32) (tb : Nat → Nat → Int64) (uv : Nat → Int32) (ua : Nat → Nat → Int32) (ub : Nat → Nat → Int64) (K : TKS) (hT : CTk K ra rb) (hcw : chg [1, 7, 8, 9, 10, 11] rv0 rv) (ha2 : ra 2 = ra0 2) (hb3 : rb 3 = rb0 3) (q : PT × SD) (hTT : (txtS K 400 ((0, none), plainD)) = .inr q) (hP : PVc K (.inr q.1) rv) (hR : RDc q.2 q.1.1 tv ta tb) (hI : invS q) (h0 : rv 0 = nI (K.2.1 q.1.1)) (hd : 1 ≤ d) : XG mX3_parse (px_gS d (fun r W' => ∃ x rv' ra' rb' tv' ta' tb', W' = dW rv' ra' rb' (.ref 6) (xY tv' ta' tb' uv ua ub) ∧ chg [1, 7, 8, 9, 10, 11] rv0 rv' ∧ ra' 2 = ra0 2 ∧ rb' 3 = rb0 3 ∧ rdQ K x rv' tv' ta' tb' ∧ r = some (.int x))) 0 0 69 [some (.ref 0), some (.ref 6), none] [] (dW rv ra rb (.ref 6) (xY tv ta tb uv ua ub)) := by
  have hout := out_is hR hI.2.2.2
  have hend := end_P hP h0
  have hm := hR.1.2.1
  have hm6 := hI.2.1.1
  refine XG.blk tX3_parse_ok 35 2 (pc' := 73) (pl' := [some (.ref 0), some (.ref 6), none]) (st' := [(.ref 6)]) (W1 := (dW rv ra rb (.ref 6) (xY tv ta tb uv ua ub))) (bs := []) rfl rfl rfl ?_
  refine XG.callV (ro := [6, 7, 8, 9, 10, 11, 12, 13, 14, 15, 16, 17, 18, 19, 20]) (W1 := (tW tv ta tb)) eX3_parse_73 kl_X3_75 (cc_someLie (d - 1) tv ta tb (q.2.1 24) hm hm6) (px_fitS (by omega)) rfl ⟨rfl, by decide, by decide⟩ rfl rfl (Nat.le_of_ble_eq_true rfl) (fun r9 W9 hp9 hl9 => ?_)
  obtain ⟨rfl, rfl⟩ := hp9
  rw [pt_ey]
  show XG _ _ _ _ _ _ [(.int (if (findN (fun i => decide (tv 0 ≤ ta 11 i)) (q.2.1 24) 0).isSome = true then 1 else 0))] (dW rv ra rb (.ref 6) (xY tv ta tb uv ua ub))
  refine XG.br eX3_parse_76 (P := (if (findN (fun i => decide (tv 0 ≤ ta 11 i)) (q.2.1 24) 0).isSome = true then 1 else 0) = 0) (r := []) rfl (tgt := 88) (by decide) (fun h76 => ?_) (fun h76 => ?_)
  · skip
    have hPE : PVc K (.inr (endS K q).1) rv := hend.2 (fun w => absurd h76 (by rw [if_pos (hout.mpr w)]; decide))
    refine XG.blk tX3_parse_ok 44 2 (pc' := 92) (pl' := [some (.ref 0), some (.ref 6), none]) (st' := [(.int (rv 9))]) (W1 := (dW rv ra rb (.ref 6) (xY tv ta tb uv ua ub))) (bs := []) rfl rfl rfl ?_
    refine XG.br eX3_parse_92 (P := ¬ (rv 9) = 0) (r := []) rfl (tgt := 118) (by decide) (fun h92 => ?_) (fun h92 => ?_)
    · exfalso
      first | exact h92 hPE.2.2.1 | exact h122 hPE.2.2.1 | exact h99 h122
    · skip
      have h92 := Decidable.not_not.mp h92
      refine XG.blk tX3_parse_ok 47 2 (pc' := 99) (pl' := [some (.ref 0), some (.ref 6), none]) (st' := [(.int (rv 10))]) (W1 := (dW rv ra rb (.ref 6) (xY tv ta tb uv ua ub))) (bs := []) rfl rfl rfl ?_
      refine XG.br eX3_parse_99 (P := (rv 10) = 0) (r := []) rfl (tgt := 118) (by decide) (fun h99 => ?_) (fun h99 => ?_)
      · skip
        refine XG.blk tX3_parse_ok 58 2 (pc' := 122) (pl' := [some (.ref 0), some (.ref 6), none]) (st' := [(.int (rv 9))]) (W1 := (dW rv ra rb (.ref 6) (xY tv ta tb uv ua ub))) (bs := []) rfl rfl rfl ?_
        refine XG.br eX3_parse_122 (P := ¬ (rv 9) = 0) (r := []) rfl (tgt := 130) (by decide) (fun h122 => ?_) (fun h122 => ?_)
        · exfalso
          first | exact h92 hPE.2.2.1 | exact h122 hPE.2.2.1 | exact h99 h122
        · skip
          have h122 := Decidable.not_not.mp h122
          refine XG.blk tX3_parse_ok 61 5 (pc' := 134) (pl' := [some (.ref 0), some (.ref 6), none]) (st' := [(.int (rv 9))]) (W1 := (dW (va_up rv 1 (-1)) ra rb (.ref 6) (xY tv ta tb uv ua ub))) (bs := []) rfl rfl rfl ?_
          refine XS.iret eX3_parse_134 rfl rfl ?_
          exact ⟨_, _, _, _, _, _, _, rfl, (hcw.tr (chg.up (by decide))), ha2, hb3, rdQ_N hTT hPE hR h99, rfl⟩
      · skip
        refine XG.blk tX3_parse_ok 50 10 (pc' := 122) (pl' := [some (.ref 0), some (.ref 6), none]) (st' := [(.int (rv 10))]) (W1 := (dW (va_up (va_up rv 9 (rv 10)) 1 (rv 11)) ra rb (.ref 6) (xY tv ta tb uv ua ub))) (bs := []) rfl rfl rfl ?_
        refine XG.br eX3_parse_122 (P := ¬ (rv 10) = 0) (r := []) rfl (tgt := 130) (by decide) (fun h122 => ?_) (fun h122 => ?_)
        · skip
          refine XG.blk tX3_parse_ok 64 2 (pc' := 134) (pl' := [some (.ref 0), some (.ref 6), none]) (st' := [(.int (rv 10))]) (W1 := (dW (va_up (va_up rv 9 (rv 10)) 1 (rv 11)) ra rb (.ref 6) (xY tv ta tb uv ua ub))) (bs := []) rfl rfl rfl ?_
          refine XS.iret eX3_parse_134 rfl rfl ?_
          exact ⟨_, _, _, _, _, _, _, rfl, ((hcw.tr (chg.up (by decide))).tr (chg.up (by decide))), ha2, hb3, rdQ_S hTT hPE h99, rfl⟩
        · exfalso
          have h122 := Decidable.not_not.mp h122
          first | exact h92 hPE.2.2.1 | exact h122 hPE.2.2.1 | exact h99 h122
  · skip
    have hPE : PVc K (.inr (endS K q).1) (ntV rv (nI 5) (rv 0)) := hend.1 (hout.mp (Decidable.not_not.mp (fun w => h76 (if_neg w))))
    refine XG.blk tX3_parse_ok 39 4 (pc' := 85) (pl' := [some (.ref 0), some (.ref 6), none]) (st' := [(.int (rv 0)), (.int (nI 5)), (.ref 0)]) (W1 := (dW rv ra rb (.ref 6) (xY tv ta tb uv ua ub))) (bs := []) rfl rfl rfl ?_
    refine XG.callV0 eX3_parse_85 kl_X3_79 (cc_noteLater (d - 1) rv ra rb (.ref 6) (xY tv ta tb uv ua ub) (nI 5) (rv 0)) (px_fitS (by omega)) rfl rfl rfl (Nat.le_of_ble_eq_true rfl) (fun r9 W9 hp9 hl9 => ?_)
    obtain ⟨rfl, rfl⟩ := hp9
    show XG _ _ _ _ _ _ [] (dW (ntV rv (nI 5) (rv 0)) ra rb (.ref 6) (xY tv ta tb uv ua ub))
    refine XG.blk tX3_parse_ok 44 2 (pc' := 92) (pl' := [some (.ref 0), some (.ref 6), none]) (st' := [(.int ((ntV rv (nI 5) (rv 0)) 9))]) (W1 := (dW (ntV rv (nI 5) (rv 0)) ra rb (.ref 6) (xY tv ta tb uv ua ub))) (bs := []) rfl rfl rfl ?_
    refine XG.br eX3_parse_92 (P := ¬ ((ntV rv (nI 5) (rv 0)) 9) = 0) (r := []) rfl (tgt := 118) (by decide) (fun h92 => ?_) (fun h92 => ?_)
    · exfalso
      first | exact h92 hPE.2.2.1 | exact h122 hPE.2.2.1 | exact h99 h122
    · skip
      have h92 := Decidable.not_not.mp h92
      refine XG.blk tX3_parse_ok 47 2 (pc' := 99) (pl' := [some (.ref 0), some (.ref 6), none]) (st' := [(.int ((ntV rv (nI 5) (rv 0)) 10))]) (W1 := (dW (ntV rv (nI 5) (rv 0)) ra rb (.ref 6) (xY tv ta tb uv ua ub))) (bs := []) rfl rfl rfl ?_
      refine XG.br eX3_parse_99 (P := ((ntV rv (nI 5) (rv 0)) 10) = 0) (r := []) rfl (tgt := 118) (by decide) (fun h99 => ?_) (fun h99 => ?_)
      · skip
        refine XG.blk tX3_parse_ok 58 2 (pc' := 122) (pl' := [some (.ref 0), some (.ref 6), none]) (st' := [(.int ((ntV rv (nI 5) (rv 0)) 9))]) (W1 := (dW (ntV rv (nI 5) (rv 0)) ra rb (.ref 6) (xY tv ta tb uv ua ub))) (bs := []) rfl rfl rfl ?_
        refine XG.br eX3_parse_122 (P := ¬ ((ntV rv (nI 5) (rv 0)) 9) = 0) (r := []) rfl (tgt := 130) (by decide) (fun h122 => ?_) (fun h122 => ?_)
        · exfalso
          first | exact h92 hPE.2.2.1 | exact h122 hPE.2.2.1 | exact h99 h122
        · skip
          have h122 := Decidable.not_not.mp h122
          refine XG.blk tX3_parse_ok 61 5 (pc' := 134) (pl' := [some (.ref 0), some (.ref 6), none]) (st' := [(.int ((ntV rv (nI 5) (rv 0)) 9))]) (W1 := (dW (va_up (ntV rv (nI 5) (rv 0)) 1 (-1)) ra rb (.ref 6) (xY tv ta tb uv ua ub))) (bs := []) rfl rfl rfl ?_
          refine XS.iret eX3_parse_134 rfl rfl ?_
          exact ⟨_, _, _, _, _, _, _, rfl, ((hcw.tr (ntV_chg.mono (by decide))).tr (chg.up (by decide))), ha2, hb3, rdQ_N hTT hPE hR h99, rfl⟩
      · skip
        refine XG.blk tX3_parse_ok 50 10 (pc' := 122) (pl' := [some (.ref 0), some (.ref 6), none]) (st' := [(.int ((ntV rv (nI 5) (rv 0)) 10))]) (W1 := (dW (va_up (va_up (ntV rv (nI 5) (rv 0)) 9 ((ntV rv (nI 5) (rv 0)) 10)) 1 ((ntV rv (nI 5) (rv 0)) 11)) ra rb (.ref 6) (xY tv ta tb uv ua ub))) (bs := []) rfl rfl rfl ?_
        refine XG.br eX3_parse_122 (P := ¬ ((ntV rv (nI 5) (rv 0)) 10) = 0) (r := []) rfl (tgt := 130) (by decide) (fun h122 => ?_) (fun h122 => ?_)
        · skip
          refine XG.blk tX3_parse_ok 64 2 (pc' := 134) (pl' := [some (.ref 0), some (.ref 6), none]) (st' := [(.int ((ntV rv (nI 5) (rv 0)) 10))]) (W1 := (dW (va_up (va_up (ntV rv (nI 5) (rv 0)) 9 ((ntV rv (nI 5) (rv 0)) 10)) 1 ((ntV rv (nI 5) (rv 0)) 11)) ra rb (.ref 6) (xY tv ta tb uv ua ub))) (bs := []) rfl rfl rfl ?_
          refine XS.iret eX3_parse_134 rfl rfl ?_
          exact ⟨_, _, _, _, _, _, _, rfl, (((hcw.tr (ntV_chg.mono (by decide))).tr (chg.up (by decide))).tr (chg.up (by decide))), ha2, hb3, rdQ_S hTT hPE h99, rfl⟩
        · exfalso
          have h122 := Decidable.not_not.mp h122
          first | exact h92 hPE.2.2.1 | exact h122 hPE.2.2.1 | exact h99 h122
set_option maxHeartbeats 1000000 in
theorem cc_parseY (d : Nat) (rv : Nat → Int32) (ra : Nat → Nat → Int32) (rb : Nat → Nat → Int64) (rt : Value) (tv : Nat → Int32) (ta : Nat → Nat → Int32) (tb : Nat → Nat → Int64) (uv : Nat → Int32) (ua : Nat → Nat → Int32) (ub : Nat → Nat → Int64) (B : Nat → Nat) (n : Nat) (hn : n ≤ 2000) (h0 : rv 0 = nI n) (hB : tpR B n (ra 2)) (hWd : ∀ q, q < 22 → rb 3 q = lN (enc 32 (wds.getD q []))) (hd : 24 ≤ d) : Con mX3_parse d [.ref 0, .ref 6] (dW rv ra rb rt (xY tv ta tb uv ua ub)) (fun r W' => ∃ x rv' ra' rb' tv' ta' tb', W' = dW rv' ra' rb' (.ref 6) (xY tv' ta' tb' uv ua ub) ∧ chg [1, 7, 8, 9, 10, 11] rv rv' ∧ ra' 2 = ra 2 ∧ rb' 3 = rb 3 ∧ rdQ (lexK B n) x rv' tv' ta' tb' ∧ r = some (.int x)) := by
  refine Con.of (by decide) (Nat.le_of_ble_eq_true rfl) ?_
  refine XG.blk tX3_parse_ok 0 3 (pc' := 5) (pl' := [some (.ref 0), some (.ref 6), none]) (st' := []) (W1 := (dW rv ra rb (.ref 6) (xY tv ta tb uv ua ub))) (bs := []) rfl rfl rfl ?_
  refine XG.blk tX3_parse_ok 3 2 (pc' := 9) (pl' := [some (.ref 0), some (.ref 6), none]) (st' := [(.ref 6)]) (W1 := (dW rv ra rb (.ref 6) (xY tv ta tb uv ua ub))) (bs := []) rfl rfl rfl ?_
  refine XG.callV (ro := [6, 7, 8, 9, 10, 11, 12, 13, 14, 15, 16, 17, 18, 19, 20]) (W1 := (tW tv ta tb)) eX3_parse_9 kl_X3_55 (cc_textClear (d - 1) tv ta tb (by omega)) (px_fitS (by omega)) rfl ⟨rfl, by decide, by decide⟩ rfl rfl (Nat.le_of_ble_eq_true rfl) (fun r9 W9 hp9 hl9 => ?_)
  obtain ⟨tv0, st0, bg0, rfl, ht0, hs0, hb0, rfl⟩ := hp9
  rw [pt_ey]
  show XG _ _ _ _ _ _ [] (dW rv ra rb (.ref 6) (xY tv0 (va_up (va_up ta 20 st0) 21 bg0) tb uv ua ub))
  refine XG.blk tX3_parse_ok 6 10 (pc' := 28) (pl' := [some (.ref 0), some (.ref 6), none]) (st' := [(.ref 0)]) (W1 := (dW (va_up (va_up (va_up rv 9 (nI 0)) 10 (nI 0)) 8 (nI 0)) ra rb (.ref 6) (xY tv0 (va_up (va_up ta 20 st0) 21 bg0) tb uv ua ub))) (bs := []) rfl rfl rfl ?_
  refine XG.callV0 eX3_parse_28 kl_X3_69 (cc_scanTape (d - 1) (va_up (va_up (va_up rv 9 (nI 0)) 10 (nI 0)) 8 (nI 0)) ra rb (.ref 6) (xY tv0 (va_up (va_up ta 20 st0) 21 bg0) tb uv ua ub) B n hn h0 hB hWd (by omega)) (px_fitS (by omega)) rfl rfl rfl (Nat.le_of_ble_eq_true rfl) (fun r9 W9 hp9 hl9 => ?_)
  obtain ⟨z7, ra1, rb1, rfl, ha1, hb1, hT, rfl⟩ := hp9
  show XG _ _ _ _ _ _ [] (dW (va_up (va_up (va_up (va_up rv 9 (nI 0)) 10 (nI 0)) 8 (nI 0)) 7 z7) ra1 rb1 (.ref 6) (xY tv0 (va_up (va_up ta 20 st0) 21 bg0) tb uv ua ub))
  refine XG.blk tX3_parse_ok 17 2 (pc' := 33) (pl' := [some (.ref 0), some (.ref 6), some (.int (nI 0))]) (st' := []) (W1 := (dW (va_up (va_up (va_up (va_up rv 9 (nI 0)) 10 (nI 0)) 8 (nI 0)) 7 z7) ra1 rb1 (.ref 6) (xY tv0 (va_up (va_up ta 20 st0) 21 bg0) tb uv ua ub))) (bs := []) rfl rfl rfl ?_
  refine px_for 400 (fun i => ∀ (rvw tvw : Nat → Int32) (taw : Nat → Nat → Int32) (tbw : Nat → Nat → Int64) (T : PE ⊕ (PT × SD)) (hcw : chg [1, 7, 8, 9, 10, 11] rv rvw) (hQ : RQc (lexK B n) T rvw tvw taw tbw) (hI : ∀ q, T = .inr q → invS q) (hF : bd T (txtS (lexK B n) (400 - i)) = (txtS (lexK B n) 400 ((0, none), plainD))), XG mX3_parse _ 0 0 33 [some (.ref 0), some (.ref 6), some (.int (nI i))] [] (dW rvw ra1 rb1 (.ref 6) (xY tvw taw tbw uv ua ub))) ?_ ?_ 0 (Nat.zero_le _) (va_up (va_up (va_up (va_up rv 9 (nI 0)) 10 (nI 0)) 8 (nI 0)) 7 z7) tv0 (va_up (va_up ta 20 st0) 21 bg0) tb (.inr ((0, none), plainD)) (chg.tr (chg.tr (chg.tr (chg.up (by decide)) (chg.up (by decide))) (chg.up (by decide))) (chg.up (by decide))) ⟨⟨Nat.zero_le _, rfl, rfl, fun i hi => absurd hi (Nat.not_lt_zero _), rfl⟩, RDc_plain ht0 hs0 hb0⟩ (fun q hq => by obtain rfl := Sum.inr.inj hq; exact inv_plain) (show txtS (lexK B n) (400 - 0) ((0, none), plainD) = _ by rw [Nat.sub_zero])
  · intro rvw tvw taw tbw T hcw hQ hI hF
    refine XG.blk tX3_parse_ok 19 2 (pc' := 37) (pl' := [some (.ref 0), some (.ref 6), some (.int (nI 400))]) (st' := [(.int (nI 400)), (.int (nI 400))]) (W1 := (dW rvw ra1 rb1 (.ref 6) (xY tvw taw tbw uv ua ub))) (bs := []) rfl rfl rfl ?_
    refine XG.br eX3_parse_37 (P := (nI 400) ≤ (nI 400)) (r := []) rfl (tgt := 69) (by decide) (fun h37 => ?_) (fun h37 => ?_)
    · skip
      have g37 : 400 ≤ 400 := (nI_leI (a := 400) (b := 400) (by omega) (by omega)).mp h37
      refine XG.weak (pl' := [some (.ref 0), some (.ref 6), none]) ⟨rfl, rfl, trivial⟩ ?_
      have hTT : (txtS (lexK B n) 400 ((0, none), plainD)) = T := by rw [← hF, Nat.sub_self]; cases T <;> rfl
      cases T with
      | inl e => exact pb_F d rv ra rb rvw ra1 rb1 tvw taw tbw uv ua ub (lexK B n) hT hcw ha1 hb1 e hTT hQ.1 hQ.2 (by omega)
      | inr q =>
        have h9 := txt_inv (lex_sm B n) _ _ _ hTT inv_plain (by decide)
        exact pb_O d rv ra rb rvw ra1 rb1 tvw taw tbw uv ua ub (lexK B n) hT hcw ha1 hb1 q hTT hQ.1 hQ.2 h9.1 ((hcw 0 (by decide)).trans (h0.trans (congrArg nI (lex_end h9.2).symm))) (by omega)
    · exfalso
      have g37 : ¬ 400 ≤ 400 := (fun z_9 => h37 ((nI_leI (a := 400) (b := 400) (by omega) (by omega)).mpr z_9))
      omega
  · intro i hi ihi rvw tvw taw tbw T hcw hQ hI hF
    refine XG.blk tX3_parse_ok 19 2 (pc' := 37) (pl' := [some (.ref 0), some (.ref 6), some (.int (nI i))]) (st' := [(.int (nI 400)), (.int (nI i))]) (W1 := (dW rvw ra1 rb1 (.ref 6) (xY tvw taw tbw uv ua ub))) (bs := []) rfl rfl rfl ?_
    refine XG.br eX3_parse_37 (P := (nI 400) ≤ (nI i)) (r := []) rfl (tgt := 69) (by decide) (fun h37 => ?_) (fun h37 => ?_)
    · exfalso
      have g37 : 400 ≤ i := (nI_leI (a := 400) (b := i) (by omega) (by omega)).mp h37
      omega
    · skip
      have g37 : ¬ 400 ≤ i := (fun z_9 => h37 ((nI_leI (a := 400) (b := i) (by omega) (by omega)).mpr z_9))
      refine XG.blk tX3_parse_ok 22 2 (pc' := 44) (pl' := [some (.ref 0), some (.ref 6), some (.int (nI i))]) (st' := [(.int (rvw 9))]) (W1 := (dW rvw ra1 rb1 (.ref 6) (xY tvw taw tbw uv ua ub))) (bs := []) rfl rfl rfl ?_
      refine XG.br eX3_parse_44 (P := ¬ (rvw 9) = 0) (r := []) rfl (tgt := 69) (by decide) (fun h44 => ?_) (fun h44 => ?_)
      · skip
        refine XG.weak (pl' := [some (.ref 0), some (.ref 6), none]) ⟨rfl, rfl, trivial⟩ ?_
        obtain ⟨e, rfl⟩ := hQ.bad h44
        exact pb_F d rv ra rb rvw ra1 rb1 tvw taw tbw uv ua ub (lexK B n) hT hcw ha1 hb1 e hF.symm hQ.1 hQ.2 (by omega)
      · skip
        have h44 := Decidable.not_not.mp h44
        obtain ⟨q, rfl⟩ := hQ.good h44
        have hPq : PVc (lexK B n) (.inr q.1) rvw := hQ.1
        have hq4 := hPq.1
        have hK := hT q.1.1 hPq.1 hPq.2.2.2.1
        have hlt := ck_lt hK.2.2.2.2.1
        have hck0 : ck ((lexK B n).1 q.1.1) = 0 ↔ (lexK B n).1 q.1.1 = 0 := ck_inj (k := 0) hK.2.2.2.2.1 (by unfold vk; omega)
        have q1 : (rvw 8) = (nI q.1.1) := hPq.2.1
        have q2 : (nI q.1.1).toNatClampNeg = q.1.1 := nI_clamp (by omega)
        have q3 : ((ra1 4) q.1.1) = (nI (ck ((lexK B n).1 q.1.1))) := hK.1
        refine XG.blk tX3_parse_ok 25 5 (pc' := 56) (pl' := [some (.ref 0), some (.ref 6), some (.int (nI i))]) (st' := [(.int ((ra1 4) (rvw 8).toNatClampNeg))]) (W1 := (dW rvw ra1 rb1 (.ref 6) (xY tvw taw tbw uv ua ub))) (bs := [px_vb (rvw 8) 402]) rfl rfl (by (try simp only [q1, q2, q3]); exact (px_all (px_vbN (by omega) (by decide)) rfl)) ?_
        simp only [q1, q2, q3]
        refine XG.br eX3_parse_56 (P := (nI (ck ((lexK B n).1 q.1.1))) = 0) (r := []) rfl (tgt := 69) (by decide) (fun h56 => ?_) (fun h56 => ?_)
        · skip
          have g56 : (ck ((lexK B n).1 q.1.1)) = 0 := (nI_eq (a := (ck ((lexK B n).1 q.1.1))) (b := 0) (by omega) (by omega)).mp h56
          refine XG.weak (pl' := [some (.ref 0), some (.ref 6), none]) ⟨rfl, rfl, trivial⟩ ?_
          have hk0 : (lexK B n).1 q.1.1 = 0 := hck0.mp g56
          have hTT : (txtS (lexK B n) 400 ((0, none), plainD)) = .inr q := by
            rw [← hF, show 400 - i = (400 - (i + 1)) + 1 by omega]
            exact if_pos hk0
          exact pb_O d rv ra rb rvw ra1 rb1 tvw taw tbw uv ua ub (lexK B n) hT hcw ha1 hb1 q hTT hQ.1 hQ.2 (hI q rfl) ((hcw 0 (by decide)).trans (h0.trans (congrArg nI (lex_end hk0).symm))) (by omega)
        · skip
          have g56 : ¬ (ck ((lexK B n).1 q.1.1)) = 0 := (fun z_9 => h56 ((nI_eq (a := (ck ((lexK B n).1 q.1.1))) (b := 0) (by omega) (by omega)).mpr z_9))
          refine XG.blk tX3_parse_ok 31 1 (pc' := 60) (pl' := [some (.ref 0), some (.ref 6), some (.int (nI i))]) (st' := [(.ref 0)]) (W1 := (dW rvw ra1 rb1 (.ref 6) (xY tvw taw tbw uv ua ub))) (bs := []) rfl rfl rfl ?_
          refine XG.callV (ro := [0, 1, 2, 3, 4, 5, 6, 7, 8, 9, 10, 11, 12, 13, 14, 15, 16, 17, 18, 19, 20]) (W1 := (dW rvw ra1 rb1 (.ref 6) (xW tvw taw tbw))) eX3_parse_60 kl_X3_72 (cc_parseTell (d - 1) rvw ra1 rb1 tvw taw tbw (lexK B n) hT q.1 hPq q.2 hQ.2 (by omega)) (px_fitS (by omega)) rfl ⟨rfl, by decide, by decide⟩ rfl rfl (Nat.le_of_ble_eq_true rfl) (fun r9 W9 hp9 hl9 => ?_)
          obtain ⟨rv2, tv2, ta2, tb2, rfl, hc2, hQ2, rfl⟩ := hp9
          rw [pt_yx]
          show XG _ _ _ _ _ _ [] (dW rv2 ra1 rb1 (.ref 6) (xY tv2 ta2 tb2 uv ua ub))
          have q4 : ((nI i) + (nI 1)) = (nI (i + 1)) := px_eadd rfl rfl
          refine XG.blk tX3_parse_ok 33 1 (pc' := 66) (pl' := [some (.ref 0), some (.ref 6), some (.int ((nI i) + (nI 1)))]) (st' := []) (W1 := (dW rv2 ra1 rb1 (.ref 6) (xY tv2 ta2 tb2 uv ua ub))) (bs := []) rfl rfl rfl ?_
          simp only [q4]
          refine XG.goto eX3_parse_66 (tgt := 33) (by decide) ?_
          exact ihi _ _ _ _ _ (hcw.tr (hc2.mono (by decide))) hQ2 (fun q' hq => (tell_inv (lex_sm B n) hq (hI q rfl)).1) (by
            rw [← hF, show 400 - i = (400 - (i + 1)) + 1 by omega]
            exact (if_neg (fun w => g56 (hck0.mpr w))).symm)
