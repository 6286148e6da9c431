/-! THE CLASS: nights copied, begun, laid by -/
def cW (nv : Nat → Int32) (na : Nat → Nat → Int32) (mv : Nat → Int32) (ma : Nat → Nat → Int32) : px_W := [.inr (1, [.int (nv 0), .int (nv 1), .int (nv 2), .int (nv 3), .int (nv 4), .ref 1, .ref 2, .ref 3, .ref 4]), .inl (.int, 6, .inl (na 5)), .inl (.int, 6, .inl (na 6)), .inl (.int, 5, .inl (na 7)), .inl (.int, 5, .inl (na 8)), .inr (1, [.int (mv 0), .int (mv 1), .int (mv 2), .int (mv 3), .int (mv 4), .ref 6, .ref 7, .ref 8, .ref 9]), .inl (.int, 6, .inl (ma 5)), .inl (.int, 6, .inl (ma 6)), .inl (.int, 5, .inl (ma 7)), .inl (.int, 5, .inl (ma 8))]
def bW (nv : Nat → Int32) (na : Nat → Nat → Int32) (tv : Nat → Int32) (ta : Nat → Nat → Int32) (tb : Nat → Nat → Int64) : px_W := [.inr (1, [.int (nv 0), .int (nv 1), .int (nv 2), .int (nv 3), .int (nv 4), .ref 1, .ref 2, .ref 3, .ref 4]), .inl (.int, 6, .inl (na 5)), .inl (.int, 6, .inl (na 6)), .inl (.int, 5, .inl (na 7)), .inl (.int, 5, .inl (na 8)), .inr (7, [.int (tv 0), .int (tv 1), .int (tv 2), .int (tv 3), .int (tv 4), .int (tv 5), .int (tv 6), .ref 6, .ref 7, .ref 8, .ref 9, .ref 10, .ref 11, .ref 12, .ref 13, .ref 14, .ref 15, .ref 16]), .inl (.long, 6, .inr (.inl (tb 7))), .inl (.int, 6, .inl (ta 8)), .inl (.int, 6, .inl (ta 9)), .inl (.int, 6, .inl (ta 10)), .inl (.int, 6, .inl (ta 11)), .inl (.int, 6, .inl (ta 12)), .inl (.long, 5, .inr (.inl (tb 13))), .inl (.int, 5, .inl (ta 14)), .inl (.int, 5, .inl (ta 15)), .inl (.int, 5, .inl (ta 16)), .inr (0, [.ref 17, .ref 18, .ref 19, .int (tv 20)]), .inl (.int, 404, .inl (ta 20)), .inl (.int, 3, .inl (ta 21)), .inl (.int, 32, .inl (ta 22))]
def hW (n : Nat) (cf : Nat → Int32) (nv : Nat → Int32) (na : Nat → Nat → Int32) : px_W := [.inr (6, [.ref 1]), .inl (.int, n, .inl cf), .inr (1, [.int (nv 0), .int (nv 1), .int (nv 2), .int (nv 3), .int (nv 4), .ref 3, .ref 4, .ref 5, .ref 6]), .inl (.int, 6, .inl (na 5)), .inl (.int, 6, .inl (na 6)), .inl (.int, 5, .inl (na 7)), .inl (.int, 5, .inl (na 8))]
set_option maxHeartbeats 400000 in
theorem cc_copy (d : Nat) (nv : Nat → Int32) (na : Nat → Nat → Int32) (mv : Nat → Int32) (ma : Nat → Nat → Int32) (hd : 1 ≤ d) : Con mX1_copy d [.ref 0, .ref 5] (cW nv na mv ma) (fun r W' => ∃ nv' na', W' = cW nv' na' mv ma ∧ NEq mv ma nv' na' ∧ r = none) := by
  refine Con.of (by decide) (Nat.le_of_ble_eq_true rfl) ?_
  refine XG.blk tX1_copy_ok 0 27 (pc' := 52) (pl' := [some (.ref 0), some (.ref 5)]) (st' := [(.int (nI 6)), (.int (nI 0)), (.ref 1), (.int (nI 0)), (.ref 6)]) (W1 := (cW (va_up (va_up (va_up (va_up (va_up nv 0 (mv 0)) 1 (mv 1)) 2 (mv 2)) 3 (mv 3)) 4 (mv 4)) na mv ma)) (bs := []) rfl rfl rfl ?_
  have q1 : (nI 0).toNatClampNeg = 0 := nI_clamp (by omega)
  have q2 : (nI 0).toNatClampNeg = 0 := nI_clamp (by omega)
  have q3 : (nI 6).toNatClampNeg = 6 := nI_clamp (by omega)
  refine XG.copyi (q0 := 6) (q1 := 1) (n0 := 6) (n1 := 6) (f := (ma 5)) (g := (na 5)) eX1_copy_52 kc_X1_52 rfl rfl (nI_nn (by omega)) (nI_nn (by omega)) (nI_nn (by omega)) (by rw [q1, q3]; omega) (by rw [q2, q3]; omega) (show 1 ≤ d by omega) (show 60 ≤ 60 * d by omega) (Nat.le_of_ble_eq_true rfl) ?_
  rw [q1, q3]
  show XG _ _ _ _ _ _ [] (cW (va_up (va_up (va_up (va_up (va_up nv 0 (mv 0)) 1 (mv 1)) 2 (mv 2)) 3 (mv 3)) 4 (mv 4)) (va_up na 5 (va_cpy (ma 5) (na 5) 0 0 6)) mv ma)
  refine XG.blk tX1_copy_ok 28 7 (pc' := 67) (pl' := [some (.ref 0), some (.ref 5)]) (st' := [(.int (nI 6)), (.int (nI 0)), (.ref 2), (.int (nI 0)), (.ref 7)]) (W1 := (cW (va_up (va_up (va_up (va_up (va_up nv 0 (mv 0)) 1 (mv 1)) 2 (mv 2)) 3 (mv 3)) 4 (mv 4)) (va_up na 5 (va_cpy (ma 5) (na 5) 0 0 6)) mv ma)) (bs := []) rfl rfl rfl ?_
  have q4 : (nI 0).toNatClampNeg = 0 := nI_clamp (by omega)
  have q5 : (nI 0).toNatClampNeg = 0 := nI_clamp (by omega)
  have q6 : (nI 6).toNatClampNeg = 6 := nI_clamp (by omega)
  refine XG.copyi (q0 := 7) (q1 := 2) (n0 := 6) (n1 := 6) (f := (ma 6)) (g := (na 6)) eX1_copy_67 kc_X1_52 rfl rfl (nI_nn (by omega)) (nI_nn (by omega)) (nI_nn (by omega)) (by rw [q4, q6]; omega) (by rw [q5, q6]; omega) (show 1 ≤ d by omega) (show 60 ≤ 60 * d by omega) (Nat.le_of_ble_eq_true rfl) ?_
  rw [q4, q6]
  show XG _ _ _ _ _ _ [] (cW (va_up (va_up (va_up (va_up (va_up nv 0 (mv 0)) 1 (mv 1)) 2 (mv 2)) 3 (mv 3)) 4 (mv 4)) (va_up (va_up na 5 (va_cpy (ma 5) (na 5) 0 0 6)) 6 (va_cpy (ma 6) (na 6) 0 0 6)) mv ma)
  refine XG.blk tX1_copy_ok 36 7 (pc' := 81) (pl' := [some (.ref 0), some (.ref 5)]) (st' := [(.int (nI 5)), (.int (nI 0)), (.ref 3), (.int (nI 0)), (.ref 8)]) (W1 := (cW (va_up (va_up (va_up (va_up (va_up nv 0 (mv 0)) 1 (mv 1)) 2 (mv 2)) 3 (mv 3)) 4 (mv 4)) (va_up (va_up na 5 (va_cpy (ma 5) (na 5) 0 0 6)) 6 (va_cpy (ma 6) (na 6) 0 0 6)) mv ma)) (bs := []) rfl rfl rfl ?_
  have q7 : (nI 0).toNatClampNeg = 0 := nI_clamp (by omega)
  have q8 : (nI 0).toNatClampNeg = 0 := nI_clamp (by omega)
  have q9 : (nI 5).toNatClampNeg = 5 := nI_clamp (by omega)
  refine XG.copyi (q0 := 8) (q1 := 3) (n0 := 5) (n1 := 5) (f := (ma 7)) (g := (na 7)) eX1_copy_81 kc_X1_52 rfl rfl (nI_nn (by omega)) (nI_nn (by omega)) (nI_nn (by omega)) (by rw [q7, q9]; omega) (by rw [q8, q9]; omega) (show 1 ≤ d by omega) (show 60 ≤ 60 * d by omega) (Nat.le_of_ble_eq_true rfl) ?_
  rw [q7, q9]
  show XG _ _ _ _ _ _ [] (cW (va_up (va_up (va_up (va_up (va_up nv 0 (mv 0)) 1 (mv 1)) 2 (mv 2)) 3 (mv 3)) 4 (mv 4)) (va_up (va_up (va_up na 5 (va_cpy (ma 5) (na 5) 0 0 6)) 6 (va_cpy (ma 6) (na 6) 0 0 6)) 7 (va_cpy (ma 7) (na 7) 0 0 5)) mv ma)
  refine XG.blk tX1_copy_ok 44 7 (pc' := 95) (pl' := [some (.ref 0), some (.ref 5)]) (st' := [(.int (nI 5)), (.int (nI 0)), (.ref 4), (.int (nI 0)), (.ref 9)]) (W1 := (cW (va_up (va_up (va_up (va_up (va_up nv 0 (mv 0)) 1 (mv 1)) 2 (mv 2)) 3 (mv 3)) 4 (mv 4)) (va_up (va_up (va_up na 5 (va_cpy (ma 5) (na 5) 0 0 6)) 6 (va_cpy (ma 6) (na 6) 0 0 6)) 7 (va_cpy (ma 7) (na 7) 0 0 5)) mv ma)) (bs := []) rfl rfl rfl ?_
  have q10 : (nI 0).toNatClampNeg = 0 := nI_clamp (by omega)
  have q11 : (nI 0).toNatClampNeg = 0 := nI_clamp (by omega)
  have q12 : (nI 5).toNatClampNeg = 5 := nI_clamp (by omega)
  refine XG.copyi (q0 := 9) (q1 := 4) (n0 := 5) (n1 := 5) (f := (ma 8)) (g := (na 8)) eX1_copy_95 kc_X1_52 rfl rfl (nI_nn (by omega)) (nI_nn (by omega)) (nI_nn (by omega)) (by rw [q10, q12]; omega) (by rw [q11, q12]; omega) (show 1 ≤ d by omega) (show 60 ≤ 60 * d by omega) (Nat.le_of_ble_eq_true rfl) ?_
  rw [q10, q12]
  show XG _ _ _ _ _ _ [] (cW (va_up (va_up (va_up (va_up (va_up nv 0 (mv 0)) 1 (mv 1)) 2 (mv 2)) 3 (mv 3)) 4 (mv 4)) (va_up (va_up (va_up (va_up na 5 (va_cpy (ma 5) (na 5) 0 0 6)) 6 (va_cpy (ma 6) (na 6) 0 0 6)) 7 (va_cpy (ma 7) (na 7) 0 0 5)) 8 (va_cpy (ma 8) (na 8) 0 0 5)) mv ma)
  refine XS.vret eX1_copy_98 rfl ?_
  refine ⟨_, _, rfl, ⟨fun k hk => ?_, fun j hj => ⟨sb_cpy0 hj, sb_cpy0 hj⟩, fun j hj => ⟨sb_cpy0 hj, sb_cpy0 hj⟩⟩, rfl⟩
  match k, hk with | 0, _ => rfl | 1, _ => rfl | 2, _ => rfl | 3, _ => rfl | 4, _ => rfl
def cp6 (f g : Nat → Int32) (n : Nat) : Nat → Int32 := fun j => if j < n then f j else g j
theorem cp6_s (f g : Nat → Int32) (n : Nat) : upd (cp6 f g n) n (f n) = cp6 f g (n + 1) := by
  funext j
  show (if j = n then f n else if j < n then f j else g j) = if j < n + 1 then f j else g j
  by_cases h : j = n
  · subst h; rw [if_pos rfl, if_pos (Nat.lt_succ_self _)]
  · rw [if_neg h]
    by_cases h2 : j < n
    · rw [if_pos h2, if_pos (by omega)]
    · rw [if_neg h2, if_neg (by omega)]
theorem cp6_0 (f g : Nat → Int32) : cp6 f g 0 = g := by funext j; unfold cp6; rw [if_neg (Nat.not_lt_zero j)]
theorem cp6_in {f g : Nat → Int32} {n j : Nat} (h : j < n) : cp6 f g n j = f j := if_pos h
set_option maxHeartbeats 400000 in
theorem cc_putToSleep (d : Nat) (nv : Nat → Int32) (na : Nat → Nat → Int32) (tv : Nat → Int32) (ta : Nat → Nat → Int32) (tb : Nat → Nat → Int64) (S : SD) (hsl : tv 1 = nI (S.1 24)) (hsl2 : S.1 24 ≤ 6) (hd : 1 ≤ d) : Con mX1_putToSleep d [.ref 0, .ref 5] (bW nv na tv ta tb) (fun r W' => W' = bW (va_up (va_up nv 0 (nI 0)) 4 (nbX S tv)) (va_up na 5 (cp6 (ta 8) (na 5) 6)) tv ta tb ∧ r = none) := by
  refine Con.of (by decide) (Nat.le_of_ble_eq_true rfl) ?_
  refine XG.blk tX1_putToSleep_ok 0 8 (pc' := 12) (pl' := [some (.ref 0), some (.ref 5), none]) (st' := [(.int (nI 0)), (.int (nI 0)), (.ref 5), (.ref 0)]) (W1 := (bW (va_up nv 0 (nI 0)) na tv ta tb)) (bs := []) rfl rfl rfl ?_
  refine XG.callV (ro := [5, 6, 7, 8, 9, 10, 11, 12, 13, 14, 15, 16, 17, 18, 19]) (W1 := (tW tv ta tb)) eX1_putToSleep_12 kl_X1_44 (cc_asleepAt (d - 1) tv ta tb S hsl hsl2 (nI 0) (nI 0)) (px_fitS (by omega)) rfl ⟨rfl, by decide, by decide⟩ rfl rfl (Nat.le_of_ble_eq_true rfl) (fun r9 W9 hp9 hl9 => ?_)
  obtain ⟨rfl, rfl⟩ := hp9
  show XG _ _ _ _ _ _ [(.int (nbX S tv)), (.ref 0)] (bW (va_up nv 0 (nI 0)) na tv ta tb)
  refine XG.blk tX1_putToSleep_ok 9 3 (pc' := 20) (pl' := [some (.ref 0), some (.ref 5), some (.int (nI 0))]) (st' := []) (W1 := (bW (va_up (va_up nv 0 (nI 0)) 4 (nbX S tv)) na tv ta tb)) (bs := []) rfl rfl rfl ?_
  rw [show (bW (va_up (va_up nv 0 (nI 0)) 4 (nbX S tv)) na tv ta tb) = (bW (va_up (va_up nv 0 (nI 0)) 4 (nbX S tv)) (va_up na 5 (cp6 (ta 8) (na 5) 0)) tv ta tb) by rw [cp6_0, va_up_id]]
  refine px_for 6 (fun i => XG mX1_putToSleep _ 0 0 20 [some (.ref 0), some (.ref 5), some (.int (nI i))] [] (bW (va_up (va_up nv 0 (nI 0)) 4 (nbX S tv)) (va_up na 5 (cp6 (ta 8) (na 5) i)) tv ta tb)) ?_ ?_ 0 (Nat.zero_le _)
  · skip
    refine XG.blk tX1_putToSleep_ok 12 2 (pc' := 23) (pl' := [some (.ref 0), some (.ref 5), some (.int (nI 6))]) (st' := [(.int (nI 6)), (.int (nI 6))]) (W1 := (bW (va_up (va_up nv 0 (nI 0)) 4 (nbX S tv)) (va_up na 5 (cp6 (ta 8) (na 5) 6)) tv ta tb)) (bs := []) rfl rfl rfl ?_
    refine XG.br eX1_putToSleep_23 (P := (nI 6) ≤ (nI 6)) (r := []) rfl (tgt := 44) (by decide) (fun h23 => ?_) (fun h23 => ?_)
    · skip
      have g23 : 6 ≤ 6 := (nI_leI (a := 6) (b := 6) (by omega) (by omega)).mp h23
      refine XS.vret eX1_putToSleep_44 rfl ?_
      exact ⟨rfl, rfl⟩
    · exfalso
      have g23 : ¬ 6 ≤ 6 := (fun z => h23 ((nI_leI (a := 6) (b := 6) (by omega) (by omega)).mpr z))
      omega
  · intro i hi ihi
    refine XG.blk tX1_putToSleep_ok 12 2 (pc' := 23) (pl' := [some (.ref 0), some (.ref 5), some (.int (nI i))]) (st' := [(.int (nI 6)), (.int (nI i))]) (W1 := (bW (va_up (va_up nv 0 (nI 0)) 4 (nbX S tv)) (va_up na 5 (cp6 (ta 8) (na 5) i)) tv ta tb)) (bs := []) rfl rfl rfl ?_
    refine XG.br eX1_putToSleep_23 (P := (nI 6) ≤ (nI i)) (r := []) rfl (tgt := 44) (by decide) (fun h23 => ?_) (fun h23 => ?_)
    · exfalso
      have g23 : 6 ≤ i := (nI_leI (a := 6) (b := i) (by omega) (by omega)).mp h23
      omega
    · skip
      have g23 : ¬ 6 ≤ i := (fun z => h23 ((nI_leI (a := 6) (b := i) (by omega) (by omega)).mpr z))
      have q1 : (nI i).toNatClampNeg = i := nI_clamp (by omega)
      have q2 : ((nI i) + (nI 1)) = (nI (i + 1)) := px_eadd rfl rfl
      refine XG.blk tX1_putToSleep_ok 15 9 (pc' := 41) (pl' := [some (.ref 0), some (.ref 5), some (.int ((nI i) + (nI 1)))]) (st' := []) (W1 := (bW (va_up (va_up nv 0 (nI 0)) 4 (nbX S tv)) (va_up na 5 (upd (cp6 (ta 8) (na 5) i) (nI i).toNatClampNeg ((ta 8) (nI i).toNatClampNeg))) tv ta tb)) (bs := [px_vb (nI i) 6, px_vb (nI i) 6]) rfl rfl (by (try simp only [q1, q2]); exact (px_all (px_vbN (by omega) (by decide)) (px_all (px_vbN (by omega) (by decide)) rfl))) ?_
      simp only [q1, q2]
      refine XG.goto eX1_putToSleep_41 (tgt := 20) (by decide) ?_
      rw [cp6_s]; exact ihi
set_option maxHeartbeats 400000 in
theorem cc_beginFirst (d : Nat) (nv : Nat → Int32) (na : Nat → Nat → Int32) (tv : Nat → Int32) (ta : Nat → Nat → Int32) (tb : Nat → Nat → Int64) (S : SD) (lv : Nat) (a : Nat → Nat → Int32) (hX : CX S lv a tv ta) (hd : 2 ≤ d) : Con mX1_beginFirst d [.ref 0, .ref 5] (bW nv na tv ta tb) (fun r W' => ∃ nv' na', W' = bW nv' na' tv ta tb ∧ CNt S (bgR a lv (S.1 24)) nv' na' ∧ r = none) := by
  obtain ⟨hsl, hsl2⟩ := hX.sl
  refine Con.of (by decide) (Nat.le_of_ble_eq_true rfl) ?_
  refine XG.blk tX1_beginFirst_ok 0 11 (pc' := 17) (pl' := [some (.ref 0), some (.ref 5), none]) (st' := [(.ref 5), (.ref 0)]) (W1 := (bW (va_up (va_up (va_up nv 1 (nI 1)) 2 (nI 0)) 3 (nI 0)) na tv ta tb)) (bs := []) rfl rfl rfl ?_
  refine XG.callV0 eX1_beginFirst_17 kl_X1_34 (cc_putToSleep (d - 1) (va_up (va_up (va_up nv 1 (nI 1)) 2 (nI 0)) 3 (nI 0)) na tv ta tb S hsl hsl2 (by omega)) (px_fitS (by omega)) rfl rfl rfl (Nat.le_of_ble_eq_true rfl) (fun r9 W9 hp9 hl9 => ?_)
  obtain ⟨rfl, rfl⟩ := hp9
  show XG _ _ _ _ _ _ [] (bW (va_up (va_up (va_up (va_up (va_up nv 1 (nI 1)) 2 (nI 0)) 3 (nI 0)) 0 (nI 0)) 4 (nbX S tv)) (va_up na 5 (cp6 (ta 8) (na 5) 6)) tv ta tb)
  refine XG.blk tX1_beginFirst_ok 12 2 (pc' := 22) (pl' := [some (.ref 0), some (.ref 5), some (.int (nI 0))]) (st' := []) (W1 := (bW (va_up (va_up (va_up (va_up (va_up nv 1 (nI 1)) 2 (nI 0)) 3 (nI 0)) 0 (nI 0)) 4 (nbX S tv)) (va_up na 5 (cp6 (ta 8) (na 5) 6)) tv ta tb)) (bs := []) rfl rfl rfl ?_
  rw [show (bW (va_up (va_up (va_up (va_up (va_up nv 1 (nI 1)) 2 (nI 0)) 3 (nI 0)) 0 (nI 0)) 4 (nbX S tv)) (va_up na 5 (cp6 (ta 8) (na 5) 6)) tv ta tb) = (bW (va_up (va_up (va_up (va_up (va_up nv 1 (nI 1)) 2 (nI 0)) 3 (nI 0)) 0 (nI 0)) 4 (nbX S tv)) (va_up (va_up na 5 (cp6 (ta 8) (na 5) 6)) 6 (cp6 (ta 11) (na 6) 0)) tv ta tb) by rw [cp6_0]; rfl]
  refine px_for 6 (fun i => XG mX1_beginFirst _ 0 0 22 [some (.ref 0), some (.ref 5), some (.int (nI i))] [] (bW (va_up (va_up (va_up (va_up (va_up nv 1 (nI 1)) 2 (nI 0)) 3 (nI 0)) 0 (nI 0)) 4 (nbX S tv)) (va_up (va_up na 5 (cp6 (ta 8) (na 5) 6)) 6 (cp6 (ta 11) (na 6) i)) tv ta tb)) ?_ ?_ 0 (Nat.zero_le _)
  · skip
    refine XG.blk tX1_beginFirst_ok 14 2 (pc' := 25) (pl' := [some (.ref 0), some (.ref 5), some (.int (nI 6))]) (st' := [(.int (nI 6)), (.int (nI 6))]) (W1 := (bW (va_up (va_up (va_up (va_up (va_up nv 1 (nI 1)) 2 (nI 0)) 3 (nI 0)) 0 (nI 0)) 4 (nbX S tv)) (va_up (va_up na 5 (cp6 (ta 8) (na 5) 6)) 6 (cp6 (ta 11) (na 6) 6)) tv ta tb)) (bs := []) rfl rfl rfl ?_
    refine XG.br eX1_beginFirst_25 (P := (nI 6) ≤ (nI 6)) (r := []) rfl (tgt := 46) (by decide) (fun h25 => ?_) (fun h25 => ?_)
    · skip
      have g25 : 6 ≤ 6 := (nI_leI (a := 6) (b := 6) (by omega) (by omega)).mp h25
      refine XG.blk tX1_beginFirst_ok 27 2 (pc' := 48) (pl' := [some (.ref 0), some (.ref 5), some (.int (nI 0))]) (st' := []) (W1 := (bW (va_up (va_up (va_up (va_up (va_up nv 1 (nI 1)) 2 (nI 0)) 3 (nI 0)) 0 (nI 0)) 4 (nbX S tv)) (va_up (va_up na 5 (cp6 (ta 8) (na 5) 6)) 6 (cp6 (ta 11) (na 6) 6)) tv ta tb)) (bs := []) rfl rfl rfl ?_
      rw [show (bW (va_up (va_up (va_up (va_up (va_up nv 1 (nI 1)) 2 (nI 0)) 3 (nI 0)) 0 (nI 0)) 4 (nbX S tv)) (va_up (va_up na 5 (cp6 (ta 8) (na 5) 6)) 6 (cp6 (ta 11) (na 6) 6)) tv ta tb) = (bW (va_up (va_up (va_up (va_up (va_up nv 1 (nI 1)) 2 (nI 0)) 3 (nI 0)) 0 (nI 0)) 4 (nbX S tv)) (va_up (va_up (va_up (va_up na 5 (cp6 (ta 8) (na 5) 6)) 6 (cp6 (ta 11) (na 6) 6)) 7 (cp6 (fun _ => -2) (na 7) 0)) 8 (cp6 (fun _ => nI 0) (na 8) 0)) tv ta tb) by rw [cp6_0, cp6_0]; rfl]
      refine px_for 5 (fun c => XG mX1_beginFirst _ 0 0 48 [some (.ref 0), some (.ref 5), some (.int (nI c))] [] (bW (va_up (va_up (va_up (va_up (va_up nv 1 (nI 1)) 2 (nI 0)) 3 (nI 0)) 0 (nI 0)) 4 (nbX S tv)) (va_up (va_up (va_up (va_up na 5 (cp6 (ta 8) (na 5) 6)) 6 (cp6 (ta 11) (na 6) 6)) 7 (cp6 (fun _ => -2) (na 7) c)) 8 (cp6 (fun _ => nI 0) (na 8) c)) tv ta tb)) ?_ ?_ 0 (Nat.zero_le _)
      · skip
        refine XG.blk tX1_beginFirst_ok 29 2 (pc' := 50) (pl' := [some (.ref 0), some (.ref 5), some (.int (nI 5))]) (st' := [(.int (nI 5)), (.int (nI 5))]) (W1 := (bW (va_up (va_up (va_up (va_up (va_up nv 1 (nI 1)) 2 (nI 0)) 3 (nI 0)) 0 (nI 0)) 4 (nbX S tv)) (va_up (va_up (va_up (va_up na 5 (cp6 (ta 8) (na 5) 6)) 6 (cp6 (ta 11) (na 6) 6)) 7 (cp6 (fun _ => -2) (na 7) 5)) 8 (cp6 (fun _ => nI 0) (na 8) 5)) tv ta tb)) (bs := []) rfl rfl rfl ?_
        refine XG.br eX1_beginFirst_50 (P := (nI 5) ≤ (nI 5)) (r := []) rfl (tgt := 74) (by decide) (fun h50 => ?_) (fun h50 => ?_)
        · skip
          have g50 : 5 ≤ 5 := (nI_leI (a := 5) (b := 5) (by omega) (by omega)).mp h50
          refine XS.vret eX1_beginFirst_74 rfl ?_
          refine ⟨_, _, rfl, ?_, rfl⟩
          rw [bgR_eq]
          refine CNt.nb hX rfl ?_ ?_ ?_ rfl (fun i hi => ⟨cp6_in (by omega), ?_⟩) (fun c hc => ⟨?_, ?_⟩)
          · rw [bg0_z hsl2 (by decide)]; rfl
          · rw [bg0_z hsl2 (by decide)]; rfl
          · rw [bg0_z hsl2 (by decide)]; rfl
          · rw [bg0_l hsl2 hi]; exact (cp6_in (by omega)).trans (hX.slo hi).2.2.2
          · rw [bg0_w hc]; exact cp6_in (f := fun _ => -2) (g := na 7) hc
          · rw [bg0_z hsl2 (by omega)]; exact cp6_in (f := fun _ => nI 0) (g := na 8) hc
        · exfalso
          have g50 : ¬ 5 ≤ 5 := (fun z => h50 ((nI_leI (a := 5) (b := 5) (by omega) (by omega)).mpr z))
          omega
      · intro c hc ihc
        refine XG.blk tX1_beginFirst_ok 29 2 (pc' := 50) (pl' := [some (.ref 0), some (.ref 5), some (.int (nI c))]) (st' := [(.int (nI 5)), (.int (nI c))]) (W1 := (bW (va_up (va_up (va_up (va_up (va_up nv 1 (nI 1)) 2 (nI 0)) 3 (nI 0)) 0 (nI 0)) 4 (nbX S tv)) (va_up (va_up (va_up (va_up na 5 (cp6 (ta 8) (na 5) 6)) 6 (cp6 (ta 11) (na 6) 6)) 7 (cp6 (fun _ => -2) (na 7) c)) 8 (cp6 (fun _ => nI 0) (na 8) c)) tv ta tb)) (bs := []) rfl rfl rfl ?_
        refine XG.br eX1_beginFirst_50 (P := (nI 5) ≤ (nI c)) (r := []) rfl (tgt := 74) (by decide) (fun h50 => ?_) (fun h50 => ?_)
        · exfalso
          have g50 : 5 ≤ c := (nI_leI (a := 5) (b := c) (by omega) (by omega)).mp h50
          omega
        · skip
          have g50 : ¬ 5 ≤ c := (fun z => h50 ((nI_leI (a := 5) (b := c) (by omega) (by omega)).mpr z))
          have q1 : (nI c).toNatClampNeg = c := nI_clamp (by omega)
          have q2 : ((nI c) + (nI 1)) = (nI (c + 1)) := px_eadd rfl rfl
          refine XG.blk tX1_beginFirst_ok 32 11 (pc' := 71) (pl' := [some (.ref 0), some (.ref 5), some (.int ((nI c) + (nI 1)))]) (st' := []) (W1 := (bW (va_up (va_up (va_up (va_up (va_up nv 1 (nI 1)) 2 (nI 0)) 3 (nI 0)) 0 (nI 0)) 4 (nbX S tv)) (va_up (va_up (va_up (va_up na 5 (cp6 (ta 8) (na 5) 6)) 6 (cp6 (ta 11) (na 6) 6)) 7 (upd (cp6 (fun _ => -2) (na 7) c) (nI c).toNatClampNeg (-2))) 8 (upd (cp6 (fun _ => nI 0) (na 8) c) (nI c).toNatClampNeg (nI 0))) tv ta tb)) (bs := [px_vb (nI c) 5, px_vb (nI c) 5]) rfl rfl (by (try simp only [q1, q2]); exact (px_all (px_vbN (by omega) (by decide)) (px_all (px_vbN (by omega) (by decide)) rfl))) ?_
          simp only [q1, q2]
          refine XG.goto eX1_beginFirst_71 (tgt := 48) (by decide) ?_
          rw [cp6_s (fun _ => -2), cp6_s (fun _ => nI 0)]; exact ihc
    · exfalso
      have g25 : ¬ 6 ≤ 6 := (fun z => h25 ((nI_leI (a := 6) (b := 6) (by omega) (by omega)).mpr z))
      omega
  · intro i hi ihi
    refine XG.blk tX1_beginFirst_ok 14 2 (pc' := 25) (pl' := [some (.ref 0), some (.ref 5), some (.int (nI i))]) (st' := [(.int (nI 6)), (.int (nI i))]) (W1 := (bW (va_up (va_up (va_up (va_up (va_up nv 1 (nI 1)) 2 (nI 0)) 3 (nI 0)) 0 (nI 0)) 4 (nbX S tv)) (va_up (va_up na 5 (cp6 (ta 8) (na 5) 6)) 6 (cp6 (ta 11) (na 6) i)) tv ta tb)) (bs := []) rfl rfl rfl ?_
    refine XG.br eX1_beginFirst_25 (P := (nI 6) ≤ (nI i)) (r := []) rfl (tgt := 46) (by decide) (fun h25 => ?_) (fun h25 => ?_)
    · exfalso
      have g25 : 6 ≤ i := (nI_leI (a := 6) (b := i) (by omega) (by omega)).mp h25
      omega
    · skip
      have g25 : ¬ 6 ≤ i := (fun z => h25 ((nI_leI (a := 6) (b := i) (by omega) (by omega)).mpr z))
      have q3 : (nI i).toNatClampNeg = i := nI_clamp (by omega)
      have q4 : ((nI i) + (nI 1)) = (nI (i + 1)) := px_eadd rfl rfl
      refine XG.blk tX1_beginFirst_ok 17 9 (pc' := 43) (pl' := [some (.ref 0), some (.ref 5), some (.int ((nI i) + (nI 1)))]) (st' := []) (W1 := (bW (va_up (va_up (va_up (va_up (va_up nv 1 (nI 1)) 2 (nI 0)) 3 (nI 0)) 0 (nI 0)) 4 (nbX S tv)) (va_up (va_up na 5 (cp6 (ta 8) (na 5) 6)) 6 (upd (cp6 (ta 11) (na 6) i) (nI i).toNatClampNeg ((ta 11) (nI i).toNatClampNeg))) tv ta tb)) (bs := [px_vb (nI i) 6, px_vb (nI i) 6]) rfl rfl (by (try simp only [q3, q4]); exact (px_all (px_vbN (by omega) (by decide)) (px_all (px_vbN (by omega) (by decide)) rfl))) ?_
      simp only [q3, q4]
      refine XG.goto eX1_beginFirst_43 (tgt := 22) (by decide) ?_
      rw [cp6_s]; exact ihi
set_option maxHeartbeats 400000 in
theorem cc_beginNext (d : Nat) (nv : Nat → Int32) (na : Nat → Nat → Int32) (tv : Nat → Int32) (ta : Nat → Nat → Int32) (tb : Nat → Nat → Int64) (S : SD) (lv : Nat) (a : Nat → Nat → Int32) (hX : CX S lv a tv ta) (R : Nat → Int32) (hN : CNt S R nv na) (hXR : XR S R) (H : Nat) (hG : GR S H R) (hd : 2 ≤ d) : Con mX1_beginNext d [.ref 0, .ref 5] (bW nv na tv ta tb) (fun r W' => ∃ nv' na', W' = bW nv' na' tv ta tb ∧ CNt S (niR a lv (S.1 24) (S.1 31) R) nv' na' ∧ r = none) := by
  obtain ⟨hsl, hsl2⟩ := hX.sl
  obtain ⟨hcr, hcr2⟩ := hX.cr
  refine Con.of (by decide) (Nat.le_of_ble_eq_true rfl) ?_
  refine XG.blk tX1_beginNext_ok 0 8 (pc' := 12) (pl' := [some (.ref 0), some (.ref 5), none]) (st' := [(.ref 5), (.ref 0)]) (W1 := (bW (va_up nv 1 ((nv 1) + (nI 1))) na tv ta tb)) (bs := []) rfl rfl rfl ?_
  refine XG.callV0 eX1_beginNext_12 kl_X1_34 (cc_putToSleep (d - 1) (va_up nv 1 ((nv 1) + (nI 1))) na tv ta tb S hsl hsl2 (by omega)) (px_fitS (by omega)) rfl rfl rfl (Nat.le_of_ble_eq_true rfl) (fun r9 W9 hp9 hl9 => ?_)
  obtain ⟨rfl, rfl⟩ := hp9
  show XG _ _ _ _ _ _ [] (bW (va_up (va_up (va_up nv 1 ((nv 1) + (nI 1))) 0 (nI 0)) 4 (nbX S tv)) (va_up na 5 (cp6 (ta 8) (na 5) 6)) tv ta tb)
  refine XG.blk tX1_beginNext_ok 9 2 (pc' := 17) (pl' := [some (.ref 0), some (.ref 5), some (.int (nI 0))]) (st' := []) (W1 := (bW (va_up (va_up (va_up nv 1 ((nv 1) + (nI 1))) 0 (nI 0)) 4 (nbX S tv)) (va_up na 5 (cp6 (ta 8) (na 5) 6)) tv ta tb)) (bs := []) rfl rfl rfl ?_
  have hN0 : CNt S (itN niF (nbF (a 25) lv (S.1 24) R) 0) (va_up (va_up (va_up nv 1 ((nv 1) + (nI 1))) 0 (nI 0)) 4 (nbX S tv)) (va_up na 5 (cp6 (ta 8) (na 5) 6)) := by
    refine CNt.nb hX rfl ?_ hN.2.2.1 hN.2.2.2.1 rfl (fun i hi => ⟨cp6_in (by omega), (hN.2.2.2.2.2.1 i hi).2⟩) (fun c hc => hN.2.2.2.2.2.2 c hc)
    exact congrArg (· + nI 1) hN.2.1
  refine px_for 5 (fun c => ∀ (nv9 : Nat → Int32) (na9 : Nat → Nat → Int32) (_ : CNt S (itN niF (nbF (a 25) lv (S.1 24) R) c) nv9 na9), XG mX1_beginNext _ 0 0 17 [some (.ref 0), some (.ref 5), some (.int (nI c))] [] (bW nv9 na9 tv ta tb)) ?_ ?_ 0 (Nat.zero_le _) _ _ hN0
  · intro nv9 na9 hN9
    refine XG.blk tX1_beginNext_ok 11 2 (pc' := 19) (pl' := [some (.ref 0), some (.ref 5), some (.int (nI 5))]) (st' := [(.int (nI 5)), (.int (nI 5))]) (W1 := (bW nv9 na9 tv ta tb)) (bs := []) rfl rfl rfl ?_
    refine XG.br eX1_beginNext_19 (P := (nI 5) ≤ (nI 5)) (r := []) rfl (tgt := 80) (by decide) (fun h19 => ?_) (fun h19 => ?_)
    · skip
      have g19 : 5 ≤ 5 := (nI_leI (a := 5) (b := 5) (by omega) (by omega)).mp h19
      refine XS.vret eX1_beginNext_80 rfl ?_
      refine ⟨_, _, rfl, ?_, rfl⟩
      rw [ni_5 (n := S.1 31) (fun c h1 h2 => by rw [nb_ne hsl2 (by omega) (by omega) (by omega)]; exact (hXR c h1 h2).1) 5 hcr2 (Nat.le_refl _)] at hN9
      exact hN9
    · exfalso
      have g19 : ¬ 5 ≤ 5 := (fun z => h19 ((nI_leI (a := 5) (b := 5) (by omega) (by omega)).mpr z))
      omega
  · intro c hc ihc nv9 na9 hN9
    have hk9 : (itN niF (nbF (a 25) lv (S.1 24) R) c) (18 + c) = R (18 + c) := by rw [itN_keep c _ (fun i hi r => ni_ne (by omega)), nb_ne hsl2 (by omega) (by omega) (by omega)]
    have hv9 : R (18 + c) = -2 ∨ ¬ R (18 + c) < 0 ∨ R (18 + c) = -3 := by
      by_cases hc5 : c < S.1 31
      · rcases hG.1 c hc5 with z | z | ⟨q, hq, z⟩ | z | z
        · exact Or.inr (Or.inr z)
        · exact Or.inl z
        · rw [z]; exact Or.inr (Or.inl (nI_nn (by have := hX.sp.2.2; omega)))
        · rw [z]; exact Or.inr (Or.inl (by decide))
        · rw [z]; exact Or.inr (Or.inl (by decide))
      · exact Or.inl (hXR c (by omega) (by omega)).1
    rw [← hk9] at hv9
    refine XG.blk tX1_beginNext_ok 11 2 (pc' := 19) (pl' := [some (.ref 0), some (.ref 5), some (.int (nI c))]) (st' := [(.int (nI 5)), (.int (nI c))]) (W1 := (bW nv9 na9 tv ta tb)) (bs := []) rfl rfl rfl ?_
    refine XG.br eX1_beginNext_19 (P := (nI 5) ≤ (nI c)) (r := []) rfl (tgt := 80) (by decide) (fun h19 => ?_) (fun h19 => ?_)
    · exfalso
      have g19 : 5 ≤ c := (nI_leI (a := 5) (b := c) (by omega) (by omega)).mp h19
      omega
    · skip
      have g19 : ¬ 5 ≤ c := (fun z => h19 ((nI_leI (a := 5) (b := c) (by omega) (by omega)).mpr z))
      have q1 : (nI c).toNatClampNeg = c := nI_clamp (by omega)
      have q2 : ((na9 7) c) = ((itN niF (nbF (a 25) lv (S.1 24) R) c) (18 + c)) := (hN9.2.2.2.2.2.2 c (by omega)).1
      refine XG.blk tX1_beginNext_ok 14 5 (pc' := 30) (pl' := [some (.ref 0), some (.ref 5), some (.int (nI c))]) (st' := [(.int (nI 9)), (.int ((na9 7) (nI c).toNatClampNeg))]) (W1 := (bW nv9 na9 tv ta tb)) (bs := [px_vb (nI c) 5]) rfl rfl (by (try simp only [q1, q2]); exact (px_all (px_vbN (by omega) (by decide)) rfl)) ?_
      simp only [q1, q2]
      refine XG.br eX1_beginNext_30 (P := ((itN niF (nbF (a 25) lv (S.1 24) R) c) (18 + c)) = (nI 9)) (r := []) rfl (tgt := 44) (by decide) (fun h30 => ?_) (fun h30 => ?_)
      · skip
        have q3 : (nI c).toNatClampNeg = c := nI_clamp (by omega)
        refine XG.blk tX1_beginNext_ok 26 5 (pc' := 52) (pl' := [some (.ref 0), some (.ref 5), some (.int (nI c))]) (st' := []) (W1 := (bW nv9 (va_up na9 7 (upd (na9 7) (nI c).toNatClampNeg (-2))) tv ta tb)) (bs := [px_vb (nI c) 5]) rfl rfl (by (try simp only [q3]); exact (px_all (px_vbN (by omega) (by decide)) rfl)) ?_
        simp only [q3]
        refine XG.goto eX1_beginNext_52 (tgt := 74) (by decide) ?_
        have q4 : ((nI c) + (nI 1)) = (nI (c + 1)) := px_eadd rfl rfl
        refine XG.blk tX1_beginNext_ok 43 1 (pc' := 77) (pl' := [some (.ref 0), some (.ref 5), some (.int ((nI c) + (nI 1)))]) (st' := []) (W1 := (bW nv9 (va_up na9 7 (upd (na9 7) c (-2))) tv ta tb)) (bs := []) rfl rfl rfl ?_
        simp only [q4]
        refine XG.goto eX1_beginNext_77 (tgt := 17) (by decide) ?_
        refine ihc _ _ ?_
        rw [show (itN niF (nbF (a 25) lv (S.1 24) R) (c + 1)) = upd (itN niF (nbF (a 25) lv (S.1 24) R) c) (18 + c) (-2) from if_pos (Or.inl h30)]; exact hN9.wh (by omega) _ hsl2
      · skip
        have q5 : (nI c).toNatClampNeg = c := nI_clamp (by omega)
        have q6 : ((na9 7) c) = ((itN niF (nbF (a 25) lv (S.1 24) R) c) (18 + c)) := (hN9.2.2.2.2.2.2 c (by omega)).1
        refine XG.blk tX1_beginNext_ok 20 5 (pc' := 41) (pl' := [some (.ref 0), some (.ref 5), some (.int (nI c))]) (st' := [(.int (-3)), (.int ((na9 7) (nI c).toNatClampNeg))]) (W1 := (bW nv9 na9 tv ta tb)) (bs := [px_vb (nI c) 5]) rfl rfl (by (try simp only [q5, q6]); exact (px_all (px_vbN (by omega) (by decide)) rfl)) ?_
        simp only [q5, q6]
        refine XG.br eX1_beginNext_41 (P := ¬ ((itN niF (nbF (a 25) lv (S.1 24) R) c) (18 + c)) = (-3)) (r := []) rfl (tgt := 55) (by decide) (fun h41 => ?_) (fun h41 => ?_)
        · skip
          have q7 : (nI c).toNatClampNeg = c := nI_clamp (by omega)
          have q8 : ((na9 7) c) = ((itN niF (nbF (a 25) lv (S.1 24) R) c) (18 + c)) := (hN9.2.2.2.2.2.2 c (by omega)).1
          refine XG.blk tX1_beginNext_ok 32 5 (pc' := 63) (pl' := [some (.ref 0), some (.ref 5), some (.int (nI c))]) (st' := [(.int (-2)), (.int ((na9 7) (nI c).toNatClampNeg))]) (W1 := (bW nv9 na9 tv ta tb)) (bs := [px_vb (nI c) 5]) rfl rfl (by (try simp only [q7, q8]); exact (px_all (px_vbN (by omega) (by decide)) rfl)) ?_
          simp only [q7, q8]
          refine XG.br eX1_beginNext_63 (P := ((itN niF (nbF (a 25) lv (S.1 24) R) c) (18 + c)) = (-2)) (r := []) rfl (tgt := 74) (by decide) (fun h63 => ?_) (fun h63 => ?_)
          · skip
            have q9 : ((nI c) + (nI 1)) = (nI (c + 1)) := px_eadd rfl rfl
            refine XG.blk tX1_beginNext_ok 43 1 (pc' := 77) (pl' := [some (.ref 0), some (.ref 5), some (.int ((nI c) + (nI 1)))]) (st' := []) (W1 := (bW nv9 na9 tv ta tb)) (bs := []) rfl rfl rfl ?_
            simp only [q9]
            refine XG.goto eX1_beginNext_77 (tgt := 17) (by decide) ?_
            refine ihc _ _ ?_
            rw [show (itN niF (nbF (a 25) lv (S.1 24) R) (c + 1)) = (itN niF (nbF (a 25) lv (S.1 24) R) c) from (if_neg (fun z => z.elim h30 h41)).trans (if_pos (by rw [h63]; decide))]; exact hN9
          · skip
            have q10 : (nI c).toNatClampNeg = c := nI_clamp (by omega)
            have q11 : ((nI c) + (nI 1)) = (nI (c + 1)) := px_eadd rfl rfl
            refine XG.blk tX1_beginNext_ok 38 6 (pc' := 77) (pl' := [some (.ref 0), some (.ref 5), some (.int ((nI c) + (nI 1)))]) (st' := []) (W1 := (bW nv9 (va_up na9 7 (upd (na9 7) (nI c).toNatClampNeg (nI 10))) tv ta tb)) (bs := [px_vb (nI c) 5]) rfl rfl (by (try simp only [q10, q11]); exact (px_all (px_vbN (by omega) (by decide)) rfl)) ?_
            simp only [q10, q11]
            refine XG.goto eX1_beginNext_77 (tgt := 17) (by decide) ?_
            refine ihc _ _ ?_
            rw [show (itN niF (nbF (a 25) lv (S.1 24) R) (c + 1)) = upd (itN niF (nbF (a 25) lv (S.1 24) R) c) (18 + c) (nI 10) from (if_neg (fun z => z.elim h30 h41)).trans (if_neg (hv9.elim (fun z => absurd z h63) (fun z => z.elim id (fun z => absurd z h41))))]; exact hN9.wh (by omega) _ hsl2
        · skip
          have h41 := Decidable.not_not.mp h41
          have q12 : (nI c).toNatClampNeg = c := nI_clamp (by omega)
          refine XG.blk tX1_beginNext_ok 26 5 (pc' := 52) (pl' := [some (.ref 0), some (.ref 5), some (.int (nI c))]) (st' := []) (W1 := (bW nv9 (va_up na9 7 (upd (na9 7) (nI c).toNatClampNeg (-2))) tv ta tb)) (bs := [px_vb (nI c) 5]) rfl rfl (by (try simp only [q12]); exact (px_all (px_vbN (by omega) (by decide)) rfl)) ?_
          simp only [q12]
          refine XG.goto eX1_beginNext_52 (tgt := 74) (by decide) ?_
          have q13 : ((nI c) + (nI 1)) = (nI (c + 1)) := px_eadd rfl rfl
          refine XG.blk tX1_beginNext_ok 43 1 (pc' := 77) (pl' := [some (.ref 0), some (.ref 5), some (.int ((nI c) + (nI 1)))]) (st' := []) (W1 := (bW nv9 (va_up na9 7 (upd (na9 7) c (-2))) tv ta tb)) (bs := []) rfl rfl rfl ?_
          simp only [q13]
          refine XG.goto eX1_beginNext_77 (tgt := 17) (by decide) ?_
          refine ihc _ _ ?_
          rw [show (itN niF (nbF (a 25) lv (S.1 24) R) (c + 1)) = upd (itN niF (nbF (a 25) lv (S.1 24) R) c) (18 + c) (-2) from if_pos (Or.inr h41)]; exact hN9.wh (by omega) _ hsl2
set_option maxHeartbeats 400000 in
theorem cc_allOvers (d : Nat) (nv : Nat → Int32) (na : Nat → Nat → Int32) (S : SD) (R : Nat → Int32) (hN : CNt S R nv na) : Con mX1_allOvers d [.ref 0] (nW nv na) (fun r W' => W' = nW nv na ∧ r = some (.int (ovA R 5))) := by
  refine Con.of (by decide) (Nat.le_of_ble_eq_true rfl) ?_
  refine XG.blk tX1_allOvers_ok 0 4 (pc' := 4) (pl' := [some (.ref 0), some (.int (nI 0)), some (.int (nI 0))]) (st' := []) (W1 := (nW nv na)) (bs := []) rfl rfl rfl ?_
  refine px_for 5 (fun c => XG mX1_allOvers _ 0 0 4 [some (.ref 0), some (.int (ovA R c)), some (.int (nI c))] [] (nW nv na)) ?_ ?_ 0 (Nat.zero_le _)
  · skip
    refine XG.blk tX1_allOvers_ok 4 2 (pc' := 6) (pl' := [some (.ref 0), some (.int (ovA R 5)), some (.int (nI 5))]) (st' := [(.int (nI 5)), (.int (nI 5))]) (W1 := (nW nv na)) (bs := []) rfl rfl rfl ?_
    refine XG.br eX1_allOvers_6 (P := (nI 5) ≤ (nI 5)) (r := []) rfl (tgt := 24) (by decide) (fun h6 => ?_) (fun h6 => ?_)
    · skip
      have g6 : 5 ≤ 5 := (nI_leI (a := 5) (b := 5) (by omega) (by omega)).mp h6
      refine XG.blk tX1_allOvers_ok 16 1 (pc' := 25) (pl' := [some (.ref 0), some (.int (ovA R 5)), some (.int (nI 5))]) (st' := [(.int (ovA R 5))]) (W1 := (nW nv na)) (bs := []) rfl rfl rfl ?_
      refine XS.iret eX1_allOvers_25 rfl rfl ?_
      exact ⟨rfl, rfl⟩
    · exfalso
      have g6 : ¬ 5 ≤ 5 := (fun z => h6 ((nI_leI (a := 5) (b := 5) (by omega) (by omega)).mpr z))
      omega
  · intro c hc ihc
    refine XG.blk tX1_allOvers_ok 4 2 (pc' := 6) (pl' := [some (.ref 0), some (.int (ovA R c)), some (.int (nI c))]) (st' := [(.int (nI 5)), (.int (nI c))]) (W1 := (nW nv na)) (bs := []) rfl rfl rfl ?_
    refine XG.br eX1_allOvers_6 (P := (nI 5) ≤ (nI c)) (r := []) rfl (tgt := 24) (by decide) (fun h6 => ?_) (fun h6 => ?_)
    · exfalso
      have g6 : 5 ≤ c := (nI_leI (a := 5) (b := c) (by omega) (by omega)).mp h6
      omega
    · skip
      have g6 : ¬ 5 ≤ c := (fun z => h6 ((nI_leI (a := 5) (b := c) (by omega) (by omega)).mpr z))
      have q1 : (nI c).toNatClampNeg = c := nI_clamp (by omega)
      have q2 : ((na 8) c) = (R (23 + c)) := (hN.2.2.2.2.2.2 c (by omega)).2
      have q3 : ((nI c) + (nI 1)) = (nI (c + 1)) := px_eadd rfl rfl
      refine XG.blk tX1_allOvers_ok 7 8 (pc' := 21) (pl' := [some (.ref 0), some (.int ((ovA R c) + ((na 8) (nI c).toNatClampNeg))), some (.int ((nI c) + (nI 1)))]) (st' := []) (W1 := (nW nv na)) (bs := [px_vb (nI c) 5]) rfl rfl (by (try simp only [q1, q2, q3]); exact (px_all (px_vbN (by omega) (by decide)) rfl)) ?_
      simp only [q1, q2, q3]
      refine XG.goto eX1_allOvers_21 (tgt := 4) (by decide) ?_
      exact ihc
def stF (cf : Nat → Int32) (i : Nat) (nv : Nat → Int32) (na : Nat → Nat → Int32) : Nat → Int32 := (va_cpy (na 8) (va_cpy (na 7) (va_cpy (na 6) (va_cpy (na 5) (upd (upd (upd (upd (upd cf (i * 27) (nv 0)) ((i * 27) + 1) (nv 1)) ((i * 27) + 2) (nv 2)) ((i * 27) + 3) (nv 3)) ((i * 27) + 4) (nv 4)) 0 ((i * 27) + 5) 6) 0 (((i * 27) + 5) + 6) 6) 0 ((((i * 27) + 5) + 6) + 6) 5) 0 (((((i * 27) + 5) + 6) + 6) + 5) 5)
theorem stF_out {cf : Nat → Int32} {i : Nat} {nv : Nat → Int32} {na : Nat → Nat → Int32} {j : Nat} (h : j < 27 * i ∨ 27 * i + 27 ≤ j) : stF cf i nv na j = cf j := by
  unfold stF
  rw [pk_cpy_out (by omega), pk_cpy_out (by omega), pk_cpy_out (by omega), pk_cpy_out (by omega), upd_ne (by omega), upd_ne (by omega), upd_ne (by omega), upd_ne (by omega), upd_ne (by omega)]
theorem stF_in (cf : Nat → Int32) (i : Nat) (nv : Nat → Int32) (na : Nat → Nat → Int32) : NEq nv na (shv (stF cf i nv na) i) (sha (stF cf i nv na) i) := by
  refine ⟨fun k hk => ?_, fun j hj => ⟨?_, ?_⟩, fun j hj => ⟨?_, ?_⟩⟩
  · unfold shv stF
    rw [pk_cpy_out (by omega), pk_cpy_out (by omega), pk_cpy_out (by omega), pk_cpy_out (by omega)]
    match k, hk with
    | 0, _ => rw [upd_ne (by omega), upd_ne (by omega), upd_ne (by omega), upd_ne (by omega), show 27 * i + 0 = i * 27 by omega, upd_eq]
    | 1, _ => rw [upd_ne (by omega), upd_ne (by omega), upd_ne (by omega), show 27 * i + 1 = i * 27 + 1 by omega, upd_eq]
    | 2, _ => rw [upd_ne (by omega), upd_ne (by omega), show 27 * i + 2 = i * 27 + 2 by omega, upd_eq]
    | 3, _ => rw [upd_ne (by omega), show 27 * i + 3 = i * 27 + 3 by omega, upd_eq]
    | 4, _ => rw [show 27 * i + 4 = i * 27 + 4 by omega, upd_eq]
  · show stF cf i nv na (27 * i + 5 + j) = _
    unfold stF
    rw [pk_cpy_out (by omega), pk_cpy_out (by omega), pk_cpy_out (by omega), pk_cpy_in (by omega) (by omega)]; congr 1; omega
  · show stF cf i nv na (27 * i + 11 + j) = _
    unfold stF
    rw [pk_cpy_out (by omega), pk_cpy_out (by omega), pk_cpy_in (by omega) (by omega)]; congr 1; omega
  · show stF cf i nv na (27 * i + 17 + j) = _
    unfold stF
    rw [pk_cpy_out (by omega), pk_cpy_in (by omega) (by omega)]; congr 1; omega
  · show stF cf i nv na (27 * i + 22 + j) = _
    unfold stF
    rw [pk_cpy_in (by omega) (by omega)]; congr 1; omega
theorem cc_has40 (d : Nat) (cf : Nat → Int32) (nv : Nat → Int32) (na : Nat → Nat → Int32) (i : Nat) (hi : i < 40) : Con mX6_has d [.ref 0, .int (nI i)] (hW 1080 cf nv na) (fun r W' => W' = hW 1080 cf nv na ∧ r = some (.int 1)) := by
  refine Con.of (by decide) (Nat.le_of_ble_eq_true rfl) ?_
  refine XG.blk tX6_has_ok 0 1 (pc' := 1) (pl' := [some (.ref 0), some (.int (nI i))]) (st' := [(.int (nI i))]) (W1 := (hW 1080 cf nv na)) (bs := []) rfl rfl rfl ?_
  refine XG.br eX6_has_1 (P := (nI i) < 0) (r := []) rfl (tgt := 20) (by decide) (fun h1 => ?_) (fun h1 => ?_)
  · exfalso
    have g1 : i < 0 := (nI_ltI (a := i) (b := 0) (by omega) (by omega)).mp h1
    omega
  · skip
    have g1 : ¬ i < 0 := (fun z => h1 ((nI_ltI (a := i) (b := 0) (by omega) (by omega)).mpr z))
    have q1 : ((nI 1080) / (nI 27)) = (nI 40) := by decide
    refine XG.blk tX6_has_ok 2 6 (pc' := 13) (pl' := [some (.ref 0), some (.int (nI i))]) (st' := [(.int ((nI 1080) / (nI 27))), (.int (nI i))]) (W1 := (hW 1080 cf nv na)) (bs := [!((nI 27) == 0)]) rfl rfl (by (try simp only [q1]); exact (px_all (rfl) rfl)) ?_
    simp only [q1]
    refine XG.br eX6_has_13 (P := (nI 40) ≤ (nI i)) (r := []) rfl (tgt := 20) (by decide) (fun h13 => ?_) (fun h13 => ?_)
    · exfalso
      have g13 : 40 ≤ i := (nI_leI (a := 40) (b := i) (by omega) (by omega)).mp h13
      omega
    · skip
      have g13 : ¬ 40 ≤ i := (fun z => h13 ((nI_leI (a := 40) (b := i) (by omega) (by omega)).mpr z))
      refine XG.blk tX6_has_ok 9 1 (pc' := 17) (pl' := [some (.ref 0), some (.int (nI i))]) (st' := [(.int (nI 1))]) (W1 := (hW 1080 cf nv na)) (bs := []) rfl rfl rfl ?_
      refine XG.goto eX6_has_17 (tgt := 21) (by decide) ?_
      refine XS.iret eX6_has_21 rfl (by decide) ?_
      exact ⟨rfl, rfl⟩
set_option maxHeartbeats 400000 in
theorem cc_store40 (d : Nat) (cf : Nat → Int32) (nv : Nat → Int32) (na : Nat → Nat → Int32) (i : Nat) (hi : i < 40) (hd : 1 ≤ d) : Con mX6_store d [.ref 0, .int (nI i), .ref 2] (hW 1080 cf nv na) (fun r W' => W' = hW 1080 (stF cf i nv na) nv na ∧ r = none) := by
  refine Con.of (by decide) (Nat.le_of_ble_eq_true rfl) ?_
  refine XG.blk tX6_store_ok 0 2 (pc' := 2) (pl' := [some (.ref 0), some (.int (nI i)), some (.ref 2), none]) (st' := [(.int (nI i)), (.ref 0)]) (W1 := (hW 1080 cf nv na)) (bs := []) rfl rfl rfl ?_
  refine XG.callV0 eX6_store_2 kl_X6_23 (cc_has40 (d - 1) cf nv na i hi) (px_fitS (by omega)) rfl rfl rfl (Nat.le_of_ble_eq_true rfl) (fun r9 W9 hp9 hl9 => ?_)
  obtain ⟨rfl, rfl⟩ := hp9
  refine XG.br eX6_store_5 (P := ¬ 1 = 0) (r := []) rfl (tgt := 9) (by decide) (fun h5 => ?_) (fun h5 => ?_)
  · skip
    have g5 : ¬ 1 = 0 := (fun z => h5 ((nI_eq (a := 1) (b := 0) (by omega) (by omega)).mpr z))
    have q1 : ((nI i) * (nI 27)) = (nI (i * 27)) := px_emul rfl rfl
    have q2 : (nI (i * 27)).toNatClampNeg = (i * 27) := nI_clamp (by omega)
    have q3 : ((nI (i * 27)) + (nI 1)) = (nI ((i * 27) + 1)) := px_eadd rfl rfl
    have q4 : (nI ((i * 27) + 1)).toNatClampNeg = ((i * 27) + 1) := nI_clamp (by omega)
    have q5 : ((nI (i * 27)) + (nI 2)) = (nI ((i * 27) + 2)) := px_eadd rfl rfl
    have q6 : (nI ((i * 27) + 2)).toNatClampNeg = ((i * 27) + 2) := nI_clamp (by omega)
    have q7 : ((nI (i * 27)) + (nI 3)) = (nI ((i * 27) + 3)) := px_eadd rfl rfl
    have q8 : (nI ((i * 27) + 3)).toNatClampNeg = ((i * 27) + 3) := nI_clamp (by omega)
    have q9 : ((nI (i * 27)) + (nI 4)) = (nI ((i * 27) + 4)) := px_eadd rfl rfl
    have q10 : (nI ((i * 27) + 4)).toNatClampNeg = ((i * 27) + 4) := nI_clamp (by omega)
    have q11 : ((nI (i * 27)) + (nI 5)) = (nI ((i * 27) + 5)) := px_eadd rfl rfl
    refine XG.blk tX6_store_ok 5 50 (pc' := 87) (pl' := [some (.ref 0), some (.int (nI i)), some (.ref 2), some (.int (((nI i) * (nI 27)) + (nI 5)))]) (st' := [(.int (nI 6)), (.int (((nI i) * (nI 27)) + (nI 5))), (.ref 1), (.int (nI 0)), (.ref 3)]) (W1 := (hW 1080 (upd (upd (upd (upd (upd cf ((nI i) * (nI 27)).toNatClampNeg (nv 0)) (((nI i) * (nI 27)) + (nI 1)).toNatClampNeg (nv 1)) (((nI i) * (nI 27)) + (nI 2)).toNatClampNeg (nv 2)) (((nI i) * (nI 27)) + (nI 3)).toNatClampNeg (nv 3)) (((nI i) * (nI 27)) + (nI 4)).toNatClampNeg (nv 4)) nv na)) (bs := [px_vb ((nI i) * (nI 27)) 1080, px_vb (((nI i) * (nI 27)) + (nI 1)) 1080, px_vb (((nI i) * (nI 27)) + (nI 2)) 1080, px_vb (((nI i) * (nI 27)) + (nI 3)) 1080, px_vb (((nI i) * (nI 27)) + (nI 4)) 1080]) rfl rfl (by (try simp only [q1, q2, q3, q4, q5, q6, q7, q8, q9, q10, q11]); exact (px_all (px_vbN (by omega) (by decide)) (px_all (px_vbN (by omega) (by decide)) (px_all (px_vbN (by omega) (by decide)) (px_all (px_vbN (by omega) (by decide)) (px_all (px_vbN (by omega) (by decide)) rfl)))))) ?_
    simp only [q1, q2, q3, q4, q5, q6, q7, q8, q9, q10, q11]
    have q12 : (nI 0).toNatClampNeg = 0 := nI_clamp (by omega)
    have q13 : (nI ((i * 27) + 5)).toNatClampNeg = ((i * 27) + 5) := nI_clamp (by omega)
    have q14 : (nI 6).toNatClampNeg = 6 := nI_clamp (by omega)
    refine XG.copyi (q0 := 3) (q1 := 1) (n0 := 6) (n1 := 1080) (f := (na 5)) (g := (upd (upd (upd (upd (upd cf (i * 27) (nv 0)) ((i * 27) + 1) (nv 1)) ((i * 27) + 2) (nv 2)) ((i * 27) + 3) (nv 3)) ((i * 27) + 4) (nv 4))) eX6_store_87 kc_X6_46 rfl rfl (nI_nn (by omega)) (nI_nn (by omega)) (nI_nn (by omega)) (by rw [q12, q14]; omega) (by rw [q13, q14]; omega) (show 1 ≤ d by omega) (show 60 ≤ 60 * d by omega) (Nat.le_of_ble_eq_true rfl) ?_
    rw [q12, q13, q14]
    show XG _ _ _ _ _ _ [] (hW 1080 (va_cpy (na 5) (upd (upd (upd (upd (upd cf (i * 27) (nv 0)) ((i * 27) + 1) (nv 1)) ((i * 27) + 2) (nv 2)) ((i * 27) + 3) (nv 3)) ((i * 27) + 4) (nv 4)) 0 ((i * 27) + 5) 6) nv na)
    have q15 : ((nI ((i * 27) + 5)) + (nI 6)) = (nI (((i * 27) + 5) + 6)) := px_eadd rfl rfl
    refine XG.blk tX6_store_ok 56 8 (pc' := 105) (pl' := [some (.ref 0), some (.int (nI i)), some (.ref 2), some (.int ((nI ((i * 27) + 5)) + (nI 6)))]) (st' := [(.int (nI 6)), (.int ((nI ((i * 27) + 5)) + (nI 6))), (.ref 1), (.int (nI 0)), (.ref 4)]) (W1 := (hW 1080 (va_cpy (na 5) (upd (upd (upd (upd (upd cf (i * 27) (nv 0)) ((i * 27) + 1) (nv 1)) ((i * 27) + 2) (nv 2)) ((i * 27) + 3) (nv 3)) ((i * 27) + 4) (nv 4)) 0 ((i * 27) + 5) 6) nv na)) (bs := []) rfl rfl rfl ?_
    simp only [q15]
    have q16 : (nI 0).toNatClampNeg = 0 := nI_clamp (by omega)
    have q17 : (nI (((i * 27) + 5) + 6)).toNatClampNeg = (((i * 27) + 5) + 6) := nI_clamp (by omega)
    have q18 : (nI 6).toNatClampNeg = 6 := nI_clamp (by omega)
    refine XG.copyi (q0 := 4) (q1 := 1) (n0 := 6) (n1 := 1080) (f := (na 6)) (g := (va_cpy (na 5) (upd (upd (upd (upd (upd cf (i * 27) (nv 0)) ((i * 27) + 1) (nv 1)) ((i * 27) + 2) (nv 2)) ((i * 27) + 3) (nv 3)) ((i * 27) + 4) (nv 4)) 0 ((i * 27) + 5) 6)) eX6_store_105 kc_X6_46 rfl rfl (nI_nn (by omega)) (nI_nn (by omega)) (nI_nn (by omega)) (by rw [q16, q18]; omega) (by rw [q17, q18]; omega) (show 1 ≤ d by omega) (show 60 ≤ 60 * d by omega) (Nat.le_of_ble_eq_true rfl) ?_
    rw [q16, q17, q18]
    show XG _ _ _ _ _ _ [] (hW 1080 (va_cpy (na 6) (va_cpy (na 5) (upd (upd (upd (upd (upd cf (i * 27) (nv 0)) ((i * 27) + 1) (nv 1)) ((i * 27) + 2) (nv 2)) ((i * 27) + 3) (nv 3)) ((i * 27) + 4) (nv 4)) 0 ((i * 27) + 5) 6) 0 (((i * 27) + 5) + 6) 6) nv na)
    have q19 : ((nI (((i * 27) + 5) + 6)) + (nI 6)) = (nI ((((i * 27) + 5) + 6) + 6)) := px_eadd rfl rfl
    refine XG.blk tX6_store_ok 65 8 (pc' := 122) (pl' := [some (.ref 0), some (.int (nI i)), some (.ref 2), some (.int ((nI (((i * 27) + 5) + 6)) + (nI 6)))]) (st' := [(.int (nI 5)), (.int ((nI (((i * 27) + 5) + 6)) + (nI 6))), (.ref 1), (.int (nI 0)), (.ref 5)]) (W1 := (hW 1080 (va_cpy (na 6) (va_cpy (na 5) (upd (upd (upd (upd (upd cf (i * 27) (nv 0)) ((i * 27) + 1) (nv 1)) ((i * 27) + 2) (nv 2)) ((i * 27) + 3) (nv 3)) ((i * 27) + 4) (nv 4)) 0 ((i * 27) + 5) 6) 0 (((i * 27) + 5) + 6) 6) nv na)) (bs := []) rfl rfl rfl ?_
    simp only [q19]
    have q20 : (nI 0).toNatClampNeg = 0 := nI_clamp (by omega)
    have q21 : (nI ((((i * 27) + 5) + 6) + 6)).toNatClampNeg = ((((i * 27) + 5) + 6) + 6) := nI_clamp (by omega)
    have q22 : (nI 5).toNatClampNeg = 5 := nI_clamp (by omega)
    refine XG.copyi (q0 := 5) (q1 := 1) (n0 := 5) (n1 := 1080) (f := (na 7)) (g := (va_cpy (na 6) (va_cpy (na 5) (upd (upd (upd (upd (upd cf (i * 27) (nv 0)) ((i * 27) + 1) (nv 1)) ((i * 27) + 2) (nv 2)) ((i * 27) + 3) (nv 3)) ((i * 27) + 4) (nv 4)) 0 ((i * 27) + 5) 6) 0 (((i * 27) + 5) + 6) 6)) eX6_store_122 kc_X6_46 rfl rfl (nI_nn (by omega)) (nI_nn (by omega)) (nI_nn (by omega)) (by rw [q20, q22]; omega) (by rw [q21, q22]; omega) (show 1 ≤ d by omega) (show 60 ≤ 60 * d by omega) (Nat.le_of_ble_eq_true rfl) ?_
    rw [q20, q21, q22]
    show XG _ _ _ _ _ _ [] (hW 1080 (va_cpy (na 7) (va_cpy (na 6) (va_cpy (na 5) (upd (upd (upd (upd (upd cf (i * 27) (nv 0)) ((i * 27) + 1) (nv 1)) ((i * 27) + 2) (nv 2)) ((i * 27) + 3) (nv 3)) ((i * 27) + 4) (nv 4)) 0 ((i * 27) + 5) 6) 0 (((i * 27) + 5) + 6) 6) 0 ((((i * 27) + 5) + 6) + 6) 5) nv na)
    have q23 : ((nI ((((i * 27) + 5) + 6) + 6)) + (nI 5)) = (nI (((((i * 27) + 5) + 6) + 6) + 5)) := px_eadd rfl rfl
    refine XG.blk tX6_store_ok 74 8 (pc' := 139) (pl' := [some (.ref 0), some (.int (nI i)), some (.ref 2), some (.int ((nI ((((i * 27) + 5) + 6) + 6)) + (nI 5)))]) (st' := [(.int (nI 5)), (.int ((nI ((((i * 27) + 5) + 6) + 6)) + (nI 5))), (.ref 1), (.int (nI 0)), (.ref 6)]) (W1 := (hW 1080 (va_cpy (na 7) (va_cpy (na 6) (va_cpy (na 5) (upd (upd (upd (upd (upd cf (i * 27) (nv 0)) ((i * 27) + 1) (nv 1)) ((i * 27) + 2) (nv 2)) ((i * 27) + 3) (nv 3)) ((i * 27) + 4) (nv 4)) 0 ((i * 27) + 5) 6) 0 (((i * 27) + 5) + 6) 6) 0 ((((i * 27) + 5) + 6) + 6) 5) nv na)) (bs := []) rfl rfl rfl ?_
    simp only [q23]
    have q24 : (nI 0).toNatClampNeg = 0 := nI_clamp (by omega)
    have q25 : (nI (((((i * 27) + 5) + 6) + 6) + 5)).toNatClampNeg = (((((i * 27) + 5) + 6) + 6) + 5) := nI_clamp (by omega)
    have q26 : (nI 5).toNatClampNeg = 5 := nI_clamp (by omega)
    refine XG.copyi (q0 := 6) (q1 := 1) (n0 := 5) (n1 := 1080) (f := (na 8)) (g := (va_cpy (na 7) (va_cpy (na 6) (va_cpy (na 5) (upd (upd (upd (upd (upd cf (i * 27) (nv 0)) ((i * 27) + 1) (nv 1)) ((i * 27) + 2) (nv 2)) ((i * 27) + 3) (nv 3)) ((i * 27) + 4) (nv 4)) 0 ((i * 27) + 5) 6) 0 (((i * 27) + 5) + 6) 6) 0 ((((i * 27) + 5) + 6) + 6) 5)) eX6_store_139 kc_X6_46 rfl rfl (nI_nn (by omega)) (nI_nn (by omega)) (nI_nn (by omega)) (by rw [q24, q26]; omega) (by rw [q25, q26]; omega) (show 1 ≤ d by omega) (show 60 ≤ 60 * d by omega) (Nat.le_of_ble_eq_true rfl) ?_
    rw [q24, q25, q26]
    show XG _ _ _ _ _ _ [] (hW 1080 (va_cpy (na 8) (va_cpy (na 7) (va_cpy (na 6) (va_cpy (na 5) (upd (upd (upd (upd (upd cf (i * 27) (nv 0)) ((i * 27) + 1) (nv 1)) ((i * 27) + 2) (nv 2)) ((i * 27) + 3) (nv 3)) ((i * 27) + 4) (nv 4)) 0 ((i * 27) + 5) 6) 0 (((i * 27) + 5) + 6) 6) 0 ((((i * 27) + 5) + 6) + 6) 5) 0 (((((i * 27) + 5) + 6) + 6) + 5) 5) nv na)
    refine XS.vret eX6_store_142 rfl ?_
    exact ⟨rfl, rfl⟩
  · exfalso
    have h5 := Decidable.not_not.mp h5
    have g5 : 1 = 0 := (nI_eq (a := 1) (b := 0) (by omega) (by omega)).mp h5
    omega
set_option maxHeartbeats 400000 in
theorem cc_fetch40 (d : Nat) (cf : Nat → Int32) (nv : Nat → Int32) (na : Nat → Nat → Int32) (i : Nat) (hi : i < 40) (hd : 1 ≤ d) : Con mX6_fetch d [.ref 0, .int (nI i), .ref 2] (hW 1080 cf nv na) (fun r W' => ∃ nv' na', W' = hW 1080 cf nv' na' ∧ NEq (shv cf i) (sha cf i) nv' na' ∧ r = none) := by
  refine Con.of (by decide) (Nat.le_of_ble_eq_true rfl) ?_
  refine XG.blk tX6_fetch_ok 0 2 (pc' := 2) (pl' := [some (.ref 0), some (.int (nI i)), some (.ref 2), none]) (st' := [(.int (nI i)), (.ref 0)]) (W1 := (hW 1080 cf nv na)) (bs := []) rfl rfl rfl ?_
  refine XG.callV0 eX6_fetch_2 kl_X6_23 (cc_has40 (d - 1) cf nv na i hi) (px_fitS (by omega)) rfl rfl rfl (Nat.le_of_ble_eq_true rfl) (fun r9 W9 hp9 hl9 => ?_)
  obtain ⟨rfl, rfl⟩ := hp9
  refine XG.br eX6_fetch_5 (P := ¬ 1 = 0) (r := []) rfl (tgt := 9) (by decide) (fun h5 => ?_) (fun h5 => ?_)
  · skip
    have g5 : ¬ 1 = 0 := (fun z => h5 ((nI_eq (a := 1) (b := 0) (by omega) (by omega)).mpr z))
    have q1 : ((nI i) * (nI 27)) = (nI (i * 27)) := px_emul rfl rfl
    have q2 : (nI (i * 27)).toNatClampNeg = (i * 27) := nI_clamp (by omega)
    have q3 : ((nI (i * 27)) + (nI 1)) = (nI ((i * 27) + 1)) := px_eadd rfl rfl
    have q4 : (nI ((i * 27) + 1)).toNatClampNeg = ((i * 27) + 1) := nI_clamp (by omega)
    have q5 : ((nI (i * 27)) + (nI 2)) = (nI ((i * 27) + 2)) := px_eadd rfl rfl
    have q6 : (nI ((i * 27) + 2)).toNatClampNeg = ((i * 27) + 2) := nI_clamp (by omega)
    have q7 : ((nI (i * 27)) + (nI 3)) = (nI ((i * 27) + 3)) := px_eadd rfl rfl
    have q8 : (nI ((i * 27) + 3)).toNatClampNeg = ((i * 27) + 3) := nI_clamp (by omega)
    have q9 : ((nI (i * 27)) + (nI 4)) = (nI ((i * 27) + 4)) := px_eadd rfl rfl
    have q10 : (nI ((i * 27) + 4)).toNatClampNeg = ((i * 27) + 4) := nI_clamp (by omega)
    have q11 : ((nI (i * 27)) + (nI 5)) = (nI ((i * 27) + 5)) := px_eadd rfl rfl
    refine XG.blk tX6_fetch_ok 5 50 (pc' := 87) (pl' := [some (.ref 0), some (.int (nI i)), some (.ref 2), some (.int (((nI i) * (nI 27)) + (nI 5)))]) (st' := [(.int (nI 6)), (.int (nI 0)), (.ref 3), (.int (((nI i) * (nI 27)) + (nI 5))), (.ref 1)]) (W1 := (hW 1080 cf (va_up (va_up (va_up (va_up (va_up nv 0 (cf ((nI i) * (nI 27)).toNatClampNeg)) 1 (cf (((nI i) * (nI 27)) + (nI 1)).toNatClampNeg)) 2 (cf (((nI i) * (nI 27)) + (nI 2)).toNatClampNeg)) 3 (cf (((nI i) * (nI 27)) + (nI 3)).toNatClampNeg)) 4 (cf (((nI i) * (nI 27)) + (nI 4)).toNatClampNeg)) na)) (bs := [px_vb ((nI i) * (nI 27)) 1080, px_vb (((nI i) * (nI 27)) + (nI 1)) 1080, px_vb (((nI i) * (nI 27)) + (nI 2)) 1080, px_vb (((nI i) * (nI 27)) + (nI 3)) 1080, px_vb (((nI i) * (nI 27)) + (nI 4)) 1080]) rfl rfl (by (try simp only [q1, q2, q3, q4, q5, q6, q7, q8, q9, q10, q11]); exact (px_all (px_vbN (by omega) (by decide)) (px_all (px_vbN (by omega) (by decide)) (px_all (px_vbN (by omega) (by decide)) (px_all (px_vbN (by omega) (by decide)) (px_all (px_vbN (by omega) (by decide)) rfl)))))) ?_
    simp only [q1, q2, q3, q4, q5, q6, q7, q8, q9, q10, q11]
    have q12 : (nI ((i * 27) + 5)).toNatClampNeg = ((i * 27) + 5) := nI_clamp (by omega)
    have q13 : (nI 0).toNatClampNeg = 0 := nI_clamp (by omega)
    have q14 : (nI 6).toNatClampNeg = 6 := nI_clamp (by omega)
    refine XG.copyi (q0 := 1) (q1 := 3) (n0 := 1080) (n1 := 6) (f := cf) (g := (na 5)) eX6_fetch_87 kc_X6_46 rfl rfl (nI_nn (by omega)) (nI_nn (by omega)) (nI_nn (by omega)) (by rw [q12, q14]; omega) (by rw [q13, q14]; omega) (show 1 ≤ d by omega) (show 60 ≤ 60 * d by omega) (Nat.le_of_ble_eq_true rfl) ?_
    rw [q12, q13, q14]
    show XG _ _ _ _ _ _ [] (hW 1080 cf (va_up (va_up (va_up (va_up (va_up nv 0 (cf (i * 27))) 1 (cf ((i * 27) + 1))) 2 (cf ((i * 27) + 2))) 3 (cf ((i * 27) + 3))) 4 (cf ((i * 27) + 4))) (va_up na 5 (va_cpy cf (na 5) ((i * 27) + 5) 0 6)))
    have q15 : ((nI ((i * 27) + 5)) + (nI 6)) = (nI (((i * 27) + 5) + 6)) := px_eadd rfl rfl
    refine XG.blk tX6_fetch_ok 56 8 (pc' := 105) (pl' := [some (.ref 0), some (.int (nI i)), some (.ref 2), some (.int ((nI ((i * 27) + 5)) + (nI 6)))]) (st' := [(.int (nI 6)), (.int (nI 0)), (.ref 4), (.int ((nI ((i * 27) + 5)) + (nI 6))), (.ref 1)]) (W1 := (hW 1080 cf (va_up (va_up (va_up (va_up (va_up nv 0 (cf (i * 27))) 1 (cf ((i * 27) + 1))) 2 (cf ((i * 27) + 2))) 3 (cf ((i * 27) + 3))) 4 (cf ((i * 27) + 4))) (va_up na 5 (va_cpy cf (na 5) ((i * 27) + 5) 0 6)))) (bs := []) rfl rfl rfl ?_
    simp only [q15]
    have q16 : (nI (((i * 27) + 5) + 6)).toNatClampNeg = (((i * 27) + 5) + 6) := nI_clamp (by omega)
    have q17 : (nI 0).toNatClampNeg = 0 := nI_clamp (by omega)
    have q18 : (nI 6).toNatClampNeg = 6 := nI_clamp (by omega)
    refine XG.copyi (q0 := 1) (q1 := 4) (n0 := 1080) (n1 := 6) (f := cf) (g := (na 6)) eX6_fetch_105 kc_X6_46 rfl rfl (nI_nn (by omega)) (nI_nn (by omega)) (nI_nn (by omega)) (by rw [q16, q18]; omega) (by rw [q17, q18]; omega) (show 1 ≤ d by omega) (show 60 ≤ 60 * d by omega) (Nat.le_of_ble_eq_true rfl) ?_
    rw [q16, q17, q18]
    show XG _ _ _ _ _ _ [] (hW 1080 cf (va_up (va_up (va_up (va_up (va_up nv 0 (cf (i * 27))) 1 (cf ((i * 27) + 1))) 2 (cf ((i * 27) + 2))) 3 (cf ((i * 27) + 3))) 4 (cf ((i * 27) + 4))) (va_up (va_up na 5 (va_cpy cf (na 5) ((i * 27) + 5) 0 6)) 6 (va_cpy cf (na 6) (((i * 27) + 5) + 6) 0 6)))
    have q19 : ((nI (((i * 27) + 5) + 6)) + (nI 6)) = (nI ((((i * 27) + 5) + 6) + 6)) := px_eadd rfl rfl
    refine XG.blk tX6_fetch_ok 65 8 (pc' := 122) (pl' := [some (.ref 0), some (.int (nI i)), some (.ref 2), some (.int ((nI (((i * 27) + 5) + 6)) + (nI 6)))]) (st' := [(.int (nI 5)), (.int (nI 0)), (.ref 5), (.int ((nI (((i * 27) + 5) + 6)) + (nI 6))), (.ref 1)]) (W1 := (hW 1080 cf (va_up (va_up (va_up (va_up (va_up nv 0 (cf (i * 27))) 1 (cf ((i * 27) + 1))) 2 (cf ((i * 27) + 2))) 3 (cf ((i * 27) + 3))) 4 (cf ((i * 27) + 4))) (va_up (va_up na 5 (va_cpy cf (na 5) ((i * 27) + 5) 0 6)) 6 (va_cpy cf (na 6) (((i * 27) + 5) + 6) 0 6)))) (bs := []) rfl rfl rfl ?_
    simp only [q19]
    have q20 : (nI ((((i * 27) + 5) + 6) + 6)).toNatClampNeg = ((((i * 27) + 5) + 6) + 6) := nI_clamp (by omega)
    have q21 : (nI 0).toNatClampNeg = 0 := nI_clamp (by omega)
    have q22 : (nI 5).toNatClampNeg = 5 := nI_clamp (by omega)
    refine XG.copyi (q0 := 1) (q1 := 5) (n0 := 1080) (n1 := 5) (f := cf) (g := (na 7)) eX6_fetch_122 kc_X6_46 rfl rfl (nI_nn (by omega)) (nI_nn (by omega)) (nI_nn (by omega)) (by rw [q20, q22]; omega) (by rw [q21, q22]; omega) (show 1 ≤ d by omega) (show 60 ≤ 60 * d by omega) (Nat.le_of_ble_eq_true rfl) ?_
    rw [q20, q21, q22]
    show XG _ _ _ _ _ _ [] (hW 1080 cf (va_up (va_up (va_up (va_up (va_up nv 0 (cf (i * 27))) 1 (cf ((i * 27) + 1))) 2 (cf ((i * 27) + 2))) 3 (cf ((i * 27) + 3))) 4 (cf ((i * 27) + 4))) (va_up (va_up (va_up na 5 (va_cpy cf (na 5) ((i * 27) + 5) 0 6)) 6 (va_cpy cf (na 6) (((i * 27) + 5) + 6) 0 6)) 7 (va_cpy cf (na 7) ((((i * 27) + 5) + 6) + 6) 0 5)))
    have q23 : ((nI ((((i * 27) + 5) + 6) + 6)) + (nI 5)) = (nI (((((i * 27) + 5) + 6) + 6) + 5)) := px_eadd rfl rfl
    refine XG.blk tX6_fetch_ok 74 8 (pc' := 139) (pl' := [some (.ref 0), some (.int (nI i)), some (.ref 2), some (.int ((nI ((((i * 27) + 5) + 6) + 6)) + (nI 5)))]) (st' := [(.int (nI 5)), (.int (nI 0)), (.ref 6), (.int ((nI ((((i * 27) + 5) + 6) + 6)) + (nI 5))), (.ref 1)]) (W1 := (hW 1080 cf (va_up (va_up (va_up (va_up (va_up nv 0 (cf (i * 27))) 1 (cf ((i * 27) + 1))) 2 (cf ((i * 27) + 2))) 3 (cf ((i * 27) + 3))) 4 (cf ((i * 27) + 4))) (va_up (va_up (va_up na 5 (va_cpy cf (na 5) ((i * 27) + 5) 0 6)) 6 (va_cpy cf (na 6) (((i * 27) + 5) + 6) 0 6)) 7 (va_cpy cf (na 7) ((((i * 27) + 5) + 6) + 6) 0 5)))) (bs := []) rfl rfl rfl ?_
    simp only [q23]
    have q24 : (nI (((((i * 27) + 5) + 6) + 6) + 5)).toNatClampNeg = (((((i * 27) + 5) + 6) + 6) + 5) := nI_clamp (by omega)
    have q25 : (nI 0).toNatClampNeg = 0 := nI_clamp (by omega)
    have q26 : (nI 5).toNatClampNeg = 5 := nI_clamp (by omega)
    refine XG.copyi (q0 := 1) (q1 := 6) (n0 := 1080) (n1 := 5) (f := cf) (g := (na 8)) eX6_fetch_139 kc_X6_46 rfl rfl (nI_nn (by omega)) (nI_nn (by omega)) (nI_nn (by omega)) (by rw [q24, q26]; omega) (by rw [q25, q26]; omega) (show 1 ≤ d by omega) (show 60 ≤ 60 * d by omega) (Nat.le_of_ble_eq_true rfl) ?_
    rw [q24, q25, q26]
    show XG _ _ _ _ _ _ [] (hW 1080 cf (va_up (va_up (va_up (va_up (va_up nv 0 (cf (i * 27))) 1 (cf ((i * 27) + 1))) 2 (cf ((i * 27) + 2))) 3 (cf ((i * 27) + 3))) 4 (cf ((i * 27) + 4))) (va_up (va_up (va_up (va_up na 5 (va_cpy cf (na 5) ((i * 27) + 5) 0 6)) 6 (va_cpy cf (na 6) (((i * 27) + 5) + 6) 0 6)) 7 (va_cpy cf (na 7) ((((i * 27) + 5) + 6) + 6) 0 5)) 8 (va_cpy cf (na 8) (((((i * 27) + 5) + 6) + 6) + 5) 0 5)))
    refine XS.vret eX6_fetch_142 rfl ?_
    refine ⟨_, _, rfl, ⟨fun k hk => ?_, fun j hj => ⟨(pk_cpy_in (Nat.zero_le _) (by omega)).trans (congrArg cf (show _ = 27 * i + 5 + j by omega)), (pk_cpy_in (Nat.zero_le _) (by omega)).trans (congrArg cf (show _ = 27 * i + 11 + j by omega))⟩, fun j hj => ⟨(pk_cpy_in (Nat.zero_le _) (by omega)).trans (congrArg cf (show _ = 27 * i + 17 + j by omega)), (pk_cpy_in (Nat.zero_le _) (by omega)).trans (congrArg cf (show _ = 27 * i + 22 + j by omega))⟩⟩, rfl⟩
    match k, hk with | 0, _ => exact congrArg cf (show _ = 27 * i + 0 by omega) | 1, _ => exact congrArg cf (show _ = 27 * i + 1 by omega) | 2, _ => exact congrArg cf (show _ = 27 * i + 2 by omega) | 3, _ => exact congrArg cf (show _ = 27 * i + 3 by omega) | 4, _ => exact congrArg cf (show _ = 27 * i + 4 by omega)
  · exfalso
    have h5 := Decidable.not_not.mp h5
    have g5 : 1 = 0 := (nI_eq (a := 1) (b := 0) (by omega) (by omega)).mp h5
    omega
theorem cc_has3 (d : Nat) (cf : Nat → Int32) (nv : Nat → Int32) (na : Nat → Nat → Int32) (i : Nat) (hi : i < 3) : Con mX6_has d [.ref 0, .int (nI i)] (hW 81 cf nv na) (fun r W' => W' = hW 81 cf nv na ∧ r = some (.int 1)) := by
  refine Con.of (by decide) (Nat.le_of_ble_eq_true rfl) ?_
  refine XG.blk tX6_has_ok 0 1 (pc' := 1) (pl' := [some (.ref 0), some (.int (nI i))]) (st' := [(.int (nI i))]) (W1 := (hW 81 cf nv na)) (bs := []) rfl rfl rfl ?_
  refine XG.br eX6_has_1 (P := (nI i) < 0) (r := []) rfl (tgt := 20) (by decide) (fun h1 => ?_) (fun h1 => ?_)
  · exfalso
    have g1 : i < 0 := (nI_ltI (a := i) (b := 0) (by omega) (by omega)).mp h1
    omega
  · skip
    have g1 : ¬ i < 0 := (fun z => h1 ((nI_ltI (a := i) (b := 0) (by omega) (by omega)).mpr z))
    have q1 : ((nI 81) / (nI 27)) = (nI 3) := by decide
    refine XG.blk tX6_has_ok 2 6 (pc' := 13) (pl' := [some (.ref 0), some (.int (nI i))]) (st' := [(.int ((nI 81) / (nI 27))), (.int (nI i))]) (W1 := (hW 81 cf nv na)) (bs := [!((nI 27) == 0)]) rfl rfl (by (try simp only [q1]); exact (px_all (rfl) rfl)) ?_
    simp only [q1]
    refine XG.br eX6_has_13 (P := (nI 3) ≤ (nI i)) (r := []) rfl (tgt := 20) (by decide) (fun h13 => ?_) (fun h13 => ?_)
    · exfalso
      have g13 : 3 ≤ i := (nI_leI (a := 3) (b := i) (by omega) (by omega)).mp h13
      omega
    · skip
      have g13 : ¬ 3 ≤ i := (fun z => h13 ((nI_leI (a := 3) (b := i) (by omega) (by omega)).mpr z))
      refine XG.blk tX6_has_ok 9 1 (pc' := 17) (pl' := [some (.ref 0), some (.int (nI i))]) (st' := [(.int (nI 1))]) (W1 := (hW 81 cf nv na)) (bs := []) rfl rfl rfl ?_
      refine XG.goto eX6_has_17 (tgt := 21) (by decide) ?_
      refine XS.iret eX6_has_21 rfl (by decide) ?_
      exact ⟨rfl, rfl⟩
set_option maxHeartbeats 400000 in
theorem cc_store3 (d : Nat) (cf : Nat → Int32) (nv : Nat → Int32) (na : Nat → Nat → Int32) (i : Nat) (hi : i < 3) (hd : 1 ≤ d) : Con mX6_store d [.ref 0, .int (nI i), .ref 2] (hW 81 cf nv na) (fun r W' => W' = hW 81 (stF cf i nv na) nv na ∧ r = none) := by
  refine Con.of (by decide) (Nat.le_of_ble_eq_true rfl) ?_
  refine XG.blk tX6_store_ok 0 2 (pc' := 2) (pl' := [some (.ref 0), some (.int (nI i)), some (.ref 2), none]) (st' := [(.int (nI i)), (.ref 0)]) (W1 := (hW 81 cf nv na)) (bs := []) rfl rfl rfl ?_
  refine XG.callV0 eX6_store_2 kl_X6_23 (cc_has3 (d - 1) cf nv na i hi) (px_fitS (by omega)) rfl rfl rfl (Nat.le_of_ble_eq_true rfl) (fun r9 W9 hp9 hl9 => ?_)
  obtain ⟨rfl, rfl⟩ := hp9
  refine XG.br eX6_store_5 (P := ¬ 1 = 0) (r := []) rfl (tgt := 9) (by decide) (fun h5 => ?_) (fun h5 => ?_)
  · skip
    have g5 : ¬ 1 = 0 := (fun z => h5 ((nI_eq (a := 1) (b := 0) (by omega) (by omega)).mpr z))
    have q1 : ((nI i) * (nI 27)) = (nI (i * 27)) := px_emul rfl rfl
    have q2 : (nI (i * 27)).toNatClampNeg = (i * 27) := nI_clamp (by omega)
    have q3 : ((nI (i * 27)) + (nI 1)) = (nI ((i * 27) + 1)) := px_eadd rfl rfl
    have q4 : (nI ((i * 27) + 1)).toNatClampNeg = ((i * 27) + 1) := nI_clamp (by omega)
    have q5 : ((nI (i * 27)) + (nI 2)) = (nI ((i * 27) + 2)) := px_eadd rfl rfl
    have q6 : (nI ((i * 27) + 2)).toNatClampNeg = ((i * 27) + 2) := nI_clamp (by omega)
    have q7 : ((nI (i * 27)) + (nI 3)) = (nI ((i * 27) + 3)) := px_eadd rfl rfl
    have q8 : (nI ((i * 27) + 3)).toNatClampNeg = ((i * 27) + 3) := nI_clamp (by omega)
    have q9 : ((nI (i * 27)) + (nI 4)) = (nI ((i * 27) + 4)) := px_eadd rfl rfl
    have q10 : (nI ((i * 27) + 4)).toNatClampNeg = ((i * 27) + 4) := nI_clamp (by omega)
    have q11 : ((nI (i * 27)) + (nI 5)) = (nI ((i * 27) + 5)) := px_eadd rfl rfl
    refine XG.blk tX6_store_ok 5 50 (pc' := 87) (pl' := [some (.ref 0), some (.int (nI i)), some (.ref 2), some (.int (((nI i) * (nI 27)) + (nI 5)))]) (st' := [(.int (nI 6)), (.int (((nI i) * (nI 27)) + (nI 5))), (.ref 1), (.int (nI 0)), (.ref 3)]) (W1 := (hW 81 (upd (upd (upd (upd (upd cf ((nI i) * (nI 27)).toNatClampNeg (nv 0)) (((nI i) * (nI 27)) + (nI 1)).toNatClampNeg (nv 1)) (((nI i) * (nI 27)) + (nI 2)).toNatClampNeg (nv 2)) (((nI i) * (nI 27)) + (nI 3)).toNatClampNeg (nv 3)) (((nI i) * (nI 27)) + (nI 4)).toNatClampNeg (nv 4)) nv na)) (bs := [px_vb ((nI i) * (nI 27)) 81, px_vb (((nI i) * (nI 27)) + (nI 1)) 81, px_vb (((nI i) * (nI 27)) + (nI 2)) 81, px_vb (((nI i) * (nI 27)) + (nI 3)) 81, px_vb (((nI i) * (nI 27)) + (nI 4)) 81]) rfl rfl (by (try simp only [q1, q2, q3, q4, q5, q6, q7, q8, q9, q10, q11]); exact (px_all (px_vbN (by omega) (by decide)) (px_all (px_vbN (by omega) (by decide)) (px_all (px_vbN (by omega) (by decide)) (px_all (px_vbN (by omega) (by decide)) (px_all (px_vbN (by omega) (by decide)) rfl)))))) ?_
    simp only [q1, q2, q3, q4, q5, q6, q7, q8, q9, q10, q11]
    have q12 : (nI 0).toNatClampNeg = 0 := nI_clamp (by omega)
    have q13 : (nI ((i * 27) + 5)).toNatClampNeg = ((i * 27) + 5) := nI_clamp (by omega)
    have q14 : (nI 6).toNatClampNeg = 6 := nI_clamp (by omega)
    refine XG.copyi (q0 := 3) (q1 := 1) (n0 := 6) (n1 := 81) (f := (na 5)) (g := (upd (upd (upd (upd (upd cf (i * 27) (nv 0)) ((i * 27) + 1) (nv 1)) ((i * 27) + 2) (nv 2)) ((i * 27) + 3) (nv 3)) ((i * 27) + 4) (nv 4))) eX6_store_87 kc_X6_46 rfl rfl (nI_nn (by omega)) (nI_nn (by omega)) (nI_nn (by omega)) (by rw [q12, q14]; omega) (by rw [q13, q14]; omega) (show 1 ≤ d by omega) (show 60 ≤ 60 * d by omega) (Nat.le_of_ble_eq_true rfl) ?_
    rw [q12, q13, q14]
    show XG _ _ _ _ _ _ [] (hW 81 (va_cpy (na 5) (upd (upd (upd (upd (upd cf (i * 27) (nv 0)) ((i * 27) + 1) (nv 1)) ((i * 27) + 2) (nv 2)) ((i * 27) + 3) (nv 3)) ((i * 27) + 4) (nv 4)) 0 ((i * 27) + 5) 6) nv na)
    have q15 : ((nI ((i * 27) + 5)) + (nI 6)) = (nI (((i * 27) + 5) + 6)) := px_eadd rfl rfl
    refine XG.blk tX6_store_ok 56 8 (pc' := 105) (pl' := [some (.ref 0), some (.int (nI i)), some (.ref 2), some (.int ((nI ((i * 27) + 5)) + (nI 6)))]) (st' := [(.int (nI 6)), (.int ((nI ((i * 27) + 5)) + (nI 6))), (.ref 1), (.int (nI 0)), (.ref 4)]) (W1 := (hW 81 (va_cpy (na 5) (upd (upd (upd (upd (upd cf (i * 27) (nv 0)) ((i * 27) + 1) (nv 1)) ((i * 27) + 2) (nv 2)) ((i * 27) + 3) (nv 3)) ((i * 27) + 4) (nv 4)) 0 ((i * 27) + 5) 6) nv na)) (bs := []) rfl rfl rfl ?_
    simp only [q15]
    have q16 : (nI 0).toNatClampNeg = 0 := nI_clamp (by omega)
    have q17 : (nI (((i * 27) + 5) + 6)).toNatClampNeg = (((i * 27) + 5) + 6) := nI_clamp (by omega)
    have q18 : (nI 6).toNatClampNeg = 6 := nI_clamp (by omega)
    refine XG.copyi (q0 := 4) (q1 := 1) (n0 := 6) (n1 := 81) (f := (na 6)) (g := (va_cpy (na 5) (upd (upd (upd (upd (upd cf (i * 27) (nv 0)) ((i * 27) + 1) (nv 1)) ((i * 27) + 2) (nv 2)) ((i * 27) + 3) (nv 3)) ((i * 27) + 4) (nv 4)) 0 ((i * 27) + 5) 6)) eX6_store_105 kc_X6_46 rfl rfl (nI_nn (by omega)) (nI_nn (by omega)) (nI_nn (by omega)) (by rw [q16, q18]; omega) (by rw [q17, q18]; omega) (show 1 ≤ d by omega) (show 60 ≤ 60 * d by omega) (Nat.le_of_ble_eq_true rfl) ?_
    rw [q16, q17, q18]
    show XG _ _ _ _ _ _ [] (hW 81 (va_cpy (na 6) (va_cpy (na 5) (upd (upd (upd (upd (upd cf (i * 27) (nv 0)) ((i * 27) + 1) (nv 1)) ((i * 27) + 2) (nv 2)) ((i * 27) + 3) (nv 3)) ((i * 27) + 4) (nv 4)) 0 ((i * 27) + 5) 6) 0 (((i * 27) + 5) + 6) 6) nv na)
    have q19 : ((nI (((i * 27) + 5) + 6)) + (nI 6)) = (nI ((((i * 27) + 5) + 6) + 6)) := px_eadd rfl rfl
    refine XG.blk tX6_store_ok 65 8 (pc' := 122) (pl' := [some (.ref 0), some (.int (nI i)), some (.ref 2), some (.int ((nI (((i * 27) + 5) + 6)) + (nI 6)))]) (st' := [(.int (nI 5)), (.int ((nI (((i * 27) + 5) + 6)) + (nI 6))), (.ref 1), (.int (nI 0)), (.ref 5)]) (W1 := (hW 81 (va_cpy (na 6) (va_cpy (na 5) (upd (upd (upd (upd (upd cf (i * 27) (nv 0)) ((i * 27) + 1) (nv 1)) ((i * 27) + 2) (nv 2)) ((i * 27) + 3) (nv 3)) ((i * 27) + 4) (nv 4)) 0 ((i * 27) + 5) 6) 0 (((i * 27) + 5) + 6) 6) nv na)) (bs := []) rfl rfl rfl ?_
    simp only [q19]
    have q20 : (nI 0).toNatClampNeg = 0 := nI_clamp (by omega)
    have q21 : (nI ((((i * 27) + 5) + 6) + 6)).toNatClampNeg = ((((i * 27) + 5) + 6) + 6) := nI_clamp (by omega)
    have q22 : (nI 5).toNatClampNeg = 5 := nI_clamp (by omega)
    refine XG.copyi (q0 := 5) (q1 := 1) (n0 := 5) (n1 := 81) (f := (na 7)) (g := (va_cpy (na 6) (va_cpy (na 5) (upd (upd (upd (upd (upd cf (i * 27) (nv 0)) ((i * 27) + 1) (nv 1)) ((i * 27) + 2) (nv 2)) ((i * 27) + 3) (nv 3)) ((i * 27) + 4) (nv 4)) 0 ((i * 27) + 5) 6) 0 (((i * 27) + 5) + 6) 6)) eX6_store_122 kc_X6_46 rfl rfl (nI_nn (by omega)) (nI_nn (by omega)) (nI_nn (by omega)) (by rw [q20, q22]; omega) (by rw [q21, q22]; omega) (show 1 ≤ d by omega) (show 60 ≤ 60 * d by omega) (Nat.le_of_ble_eq_true rfl) ?_
    rw [q20, q21, q22]
    show XG _ _ _ _ _ _ [] (hW 81 (va_cpy (na 7) (va_cpy (na 6) (va_cpy (na 5) (upd (upd (upd (upd (upd cf (i * 27) (nv 0)) ((i * 27) + 1) (nv 1)) ((i * 27) + 2) (nv 2)) ((i * 27) + 3) (nv 3)) ((i * 27) + 4) (nv 4)) 0 ((i * 27) + 5) 6) 0 (((i * 27) + 5) + 6) 6) 0 ((((i * 27) + 5) + 6) + 6) 5) nv na)
    have q23 : ((nI ((((i * 27) + 5) + 6) + 6)) + (nI 5)) = (nI (((((i * 27) + 5) + 6) + 6) + 5)) := px_eadd rfl rfl
    refine XG.blk tX6_store_ok 74 8 (pc' := 139) (pl' := [some (.ref 0), some (.int (nI i)), some (.ref 2), some (.int ((nI ((((i * 27) + 5) + 6) + 6)) + (nI 5)))]) (st' := [(.int (nI 5)), (.int ((nI ((((i * 27) + 5) + 6) + 6)) + (nI 5))), (.ref 1), (.int (nI 0)), (.ref 6)]) (W1 := (hW 81 (va_cpy (na 7) (va_cpy (na 6) (va_cpy (na 5) (upd (upd (upd (upd (upd cf (i * 27) (nv 0)) ((i * 27) + 1) (nv 1)) ((i * 27) + 2) (nv 2)) ((i * 27) + 3) (nv 3)) ((i * 27) + 4) (nv 4)) 0 ((i * 27) + 5) 6) 0 (((i * 27) + 5) + 6) 6) 0 ((((i * 27) + 5) + 6) + 6) 5) nv na)) (bs := []) rfl rfl rfl ?_
    simp only [q23]
    have q24 : (nI 0).toNatClampNeg = 0 := nI_clamp (by omega)
    have q25 : (nI (((((i * 27) + 5) + 6) + 6) + 5)).toNatClampNeg = (((((i * 27) + 5) + 6) + 6) + 5) := nI_clamp (by omega)
    have q26 : (nI 5).toNatClampNeg = 5 := nI_clamp (by omega)
    refine XG.copyi (q0 := 6) (q1 := 1) (n0 := 5) (n1 := 81) (f := (na 8)) (g := (va_cpy (na 7) (va_cpy (na 6) (va_cpy (na 5) (upd (upd (upd (upd (upd cf (i * 27) (nv 0)) ((i * 27) + 1) (nv 1)) ((i * 27) + 2) (nv 2)) ((i * 27) + 3) (nv 3)) ((i * 27) + 4) (nv 4)) 0 ((i * 27) + 5) 6) 0 (((i * 27) + 5) + 6) 6) 0 ((((i * 27) + 5) + 6) + 6) 5)) eX6_store_139 kc_X6_46 rfl rfl (nI_nn (by omega)) (nI_nn (by omega)) (nI_nn (by omega)) (by rw [q24, q26]; omega) (by rw [q25, q26]; omega) (show 1 ≤ d by omega) (show 60 ≤ 60 * d by omega) (Nat.le_of_ble_eq_true rfl) ?_
    rw [q24, q25, q26]
    show XG _ _ _ _ _ _ [] (hW 81 (va_cpy (na 8) (va_cpy (na 7) (va_cpy (na 6) (va_cpy (na 5) (upd (upd (upd (upd (upd cf (i * 27) (nv 0)) ((i * 27) + 1) (nv 1)) ((i * 27) + 2) (nv 2)) ((i * 27) + 3) (nv 3)) ((i * 27) + 4) (nv 4)) 0 ((i * 27) + 5) 6) 0 (((i * 27) + 5) + 6) 6) 0 ((((i * 27) + 5) + 6) + 6) 5) 0 (((((i * 27) + 5) + 6) + 6) + 5) 5) nv na)
    refine XS.vret eX6_store_142 rfl ?_
    exact ⟨rfl, rfl⟩
  · exfalso
    have h5 := Decidable.not_not.mp h5
    have g5 : 1 = 0 := (nI_eq (a := 1) (b := 0) (by omega) (by omega)).mp h5
    omega
set_option maxHeartbeats 400000 in
theorem cc_fetch3 (d : Nat) (cf : Nat → Int32) (nv : Nat → Int32) (na : Nat → Nat → Int32) (i : Nat) (hi : i < 3) (hd : 1 ≤ d) : Con mX6_fetch d [.ref 0, .int (nI i), .ref 2] (hW 81 cf nv na) (fun r W' => ∃ nv' na', W' = hW 81 cf nv' na' ∧ NEq (shv cf i) (sha cf i) nv' na' ∧ r = none) := by
  refine Con.of (by decide) (Nat.le_of_ble_eq_true rfl) ?_
  refine XG.blk tX6_fetch_ok 0 2 (pc' := 2) (pl' := [some (.ref 0), some (.int (nI i)), some (.ref 2), none]) (st' := [(.int (nI i)), (.ref 0)]) (W1 := (hW 81 cf nv na)) (bs := []) rfl rfl rfl ?_
  refine XG.callV0 eX6_fetch_2 kl_X6_23 (cc_has3 (d - 1) cf nv na i hi) (px_fitS (by omega)) rfl rfl rfl (Nat.le_of_ble_eq_true rfl) (fun r9 W9 hp9 hl9 => ?_)
  obtain ⟨rfl, rfl⟩ := hp9
  refine XG.br eX6_fetch_5 (P := ¬ 1 = 0) (r := []) rfl (tgt := 9) (by decide) (fun h5 => ?_) (fun h5 => ?_)
  · skip
    have g5 : ¬ 1 = 0 := (fun z => h5 ((nI_eq (a := 1) (b := 0) (by omega) (by omega)).mpr z))
    have q1 : ((nI i) * (nI 27)) = (nI (i * 27)) := px_emul rfl rfl
    have q2 : (nI (i * 27)).toNatClampNeg = (i * 27) := nI_clamp (by omega)
    have q3 : ((nI (i * 27)) + (nI 1)) = (nI ((i * 27) + 1)) := px_eadd rfl rfl
    have q4 : (nI ((i * 27) + 1)).toNatClampNeg = ((i * 27) + 1) := nI_clamp (by omega)
    have q5 : ((nI (i * 27)) + (nI 2)) = (nI ((i * 27) + 2)) := px_eadd rfl rfl
    have q6 : (nI ((i * 27) + 2)).toNatClampNeg = ((i * 27) + 2) := nI_clamp (by omega)
    have q7 : ((nI (i * 27)) + (nI 3)) = (nI ((i * 27) + 3)) := px_eadd rfl rfl
    have q8 : (nI ((i * 27) + 3)).toNatClampNeg = ((i * 27) + 3) := nI_clamp (by omega)
    have q9 : ((nI (i * 27)) + (nI 4)) = (nI ((i * 27) + 4)) := px_eadd rfl rfl
    have q10 : (nI ((i * 27) + 4)).toNatClampNeg = ((i * 27) + 4) := nI_clamp (by omega)
    have q11 : ((nI (i * 27)) + (nI 5)) = (nI ((i * 27) + 5)) := px_eadd rfl rfl
    refine XG.blk tX6_fetch_ok 5 50 (pc' := 87) (pl' := [some (.ref 0), some (.int (nI i)), some (.ref 2), some (.int (((nI i) * (nI 27)) + (nI 5)))]) (st' := [(.int (nI 6)), (.int (nI 0)), (.ref 3), (.int (((nI i) * (nI 27)) + (nI 5))), (.ref 1)]) (W1 := (hW 81 cf (va_up (va_up (va_up (va_up (va_up nv 0 (cf ((nI i) * (nI 27)).toNatClampNeg)) 1 (cf (((nI i) * (nI 27)) + (nI 1)).toNatClampNeg)) 2 (cf (((nI i) * (nI 27)) + (nI 2)).toNatClampNeg)) 3 (cf (((nI i) * (nI 27)) + (nI 3)).toNatClampNeg)) 4 (cf (((nI i) * (nI 27)) + (nI 4)).toNatClampNeg)) na)) (bs := [px_vb ((nI i) * (nI 27)) 81, px_vb (((nI i) * (nI 27)) + (nI 1)) 81, px_vb (((nI i) * (nI 27)) + (nI 2)) 81, px_vb (((nI i) * (nI 27)) + (nI 3)) 81, px_vb (((nI i) * (nI 27)) + (nI 4)) 81]) rfl rfl (by (try simp only [q1, q2, q3, q4, q5, q6, q7, q8, q9, q10, q11]); exact (px_all (px_vbN (by omega) (by decide)) (px_all (px_vbN (by omega) (by decide)) (px_all (px_vbN (by omega) (by decide)) (px_all (px_vbN (by omega) (by decide)) (px_all (px_vbN (by omega) (by decide)) rfl)))))) ?_
    simp only [q1, q2, q3, q4, q5, q6, q7, q8, q9, q10, q11]
    have q12 : (nI ((i * 27) + 5)).toNatClampNeg = ((i * 27) + 5) := nI_clamp (by omega)
    have q13 : (nI 0).toNatClampNeg = 0 := nI_clamp (by omega)
    have q14 : (nI 6).toNatClampNeg = 6 := nI_clamp (by omega)
    refine XG.copyi (q0 := 1) (q1 := 3) (n0 := 81) (n1 := 6) (f := cf) (g := (na 5)) eX6_fetch_87 kc_X6_46 rfl rfl (nI_nn (by omega)) (nI_nn (by omega)) (nI_nn (by omega)) (by rw [q12, q14]; omega) (by rw [q13, q14]; omega) (show 1 ≤ d by omega) (show 60 ≤ 60 * d by omega) (Nat.le_of_ble_eq_true rfl) ?_
    rw [q12, q13, q14]
    show XG _ _ _ _ _ _ [] (hW 81 cf (va_up (va_up (va_up (va_up (va_up nv 0 (cf (i * 27))) 1 (cf ((i * 27) + 1))) 2 (cf ((i * 27) + 2))) 3 (cf ((i * 27) + 3))) 4 (cf ((i * 27) + 4))) (va_up na 5 (va_cpy cf (na 5) ((i * 27) + 5) 0 6)))
    have q15 : ((nI ((i * 27) + 5)) + (nI 6)) = (nI (((i * 27) + 5) + 6)) := px_eadd rfl rfl
    refine XG.blk tX6_fetch_ok 56 8 (pc' := 105) (pl' := [some (.ref 0), some (.int (nI i)), some (.ref 2), some (.int ((nI ((i * 27) + 5)) + (nI 6)))]) (st' := [(.int (nI 6)), (.int (nI 0)), (.ref 4), (.int ((nI ((i * 27) + 5)) + (nI 6))), (.ref 1)]) (W1 := (hW 81 cf (va_up (va_up (va_up (va_up (va_up nv 0 (cf (i * 27))) 1 (cf ((i * 27) + 1))) 2 (cf ((i * 27) + 2))) 3 (cf ((i * 27) + 3))) 4 (cf ((i * 27) + 4))) (va_up na 5 (va_cpy cf (na 5) ((i * 27) + 5) 0 6)))) (bs := []) rfl rfl rfl ?_
    simp only [q15]
    have q16 : (nI (((i * 27) + 5) + 6)).toNatClampNeg = (((i * 27) + 5) + 6) := nI_clamp (by omega)
    have q17 : (nI 0).toNatClampNeg = 0 := nI_clamp (by omega)
    have q18 : (nI 6).toNatClampNeg = 6 := nI_clamp (by omega)
    refine XG.copyi (q0 := 1) (q1 := 4) (n0 := 81) (n1 := 6) (f := cf) (g := (na 6)) eX6_fetch_105 kc_X6_46 rfl rfl (nI_nn (by omega)) (nI_nn (by omega)) (nI_nn (by omega)) (by rw [q16, q18]; omega) (by rw [q17, q18]; omega) (show 1 ≤ d by omega) (show 60 ≤ 60 * d by omega) (Nat.le_of_ble_eq_true rfl) ?_
    rw [q16, q17, q18]
    show XG _ _ _ _ _ _ [] (hW 81 cf (va_up (va_up (va_up (va_up (va_up nv 0 (cf (i * 27))) 1 (cf ((i * 27) + 1))) 2 (cf ((i * 27) + 2))) 3 (cf ((i * 27) + 3))) 4 (cf ((i * 27) + 4))) (va_up (va_up na 5 (va_cpy cf (na 5) ((i * 27) + 5) 0 6)) 6 (va_cpy cf (na 6) (((i * 27) + 5) + 6) 0 6)))
    have q19 : ((nI (((i * 27) + 5) + 6)) + (nI 6)) = (nI ((((i * 27) + 5) + 6) + 6)) := px_eadd rfl rfl
    refine XG.blk tX6_fetch_ok 65 8 (pc' := 122) (pl' := [some (.ref 0), some (.int (nI i)), some (.ref 2), some (.int ((nI (((i * 27) + 5) + 6)) + (nI 6)))]) (st' := [(.int (nI 5)), (.int (nI 0)), (.ref 5), (.int ((nI (((i * 27) + 5) + 6)) + (nI 6))), (.ref 1)]) (W1 := (hW 81 cf (va_up (va_up (va_up (va_up (va_up nv 0 (cf (i * 27))) 1 (cf ((i * 27) + 1))) 2 (cf ((i * 27) + 2))) 3 (cf ((i * 27) + 3))) 4 (cf ((i * 27) + 4))) (va_up (va_up na 5 (va_cpy cf (na 5) ((i * 27) + 5) 0 6)) 6 (va_cpy cf (na 6) (((i * 27) + 5) + 6) 0 6)))) (bs := []) rfl rfl rfl ?_
    simp only [q19]
    have q20 : (nI ((((i * 27) + 5) + 6) + 6)).toNatClampNeg = ((((i * 27) + 5) + 6) + 6) := nI_clamp (by omega)
    have q21 : (nI 0).toNatClampNeg = 0 := nI_clamp (by omega)
    have q22 : (nI 5).toNatClampNeg = 5 := nI_clamp (by omega)
    refine XG.copyi (q0 := 1) (q1 := 5) (n0 := 81) (n1 := 5) (f := cf) (g := (na 7)) eX6_fetch_122 kc_X6_46 rfl rfl (nI_nn (by omega)) (nI_nn (by omega)) (nI_nn (by omega)) (by rw [q20, q22]; omega) (by rw [q21, q22]; omega) (show 1 ≤ d by omega) (show 60 ≤ 60 * d by omega) (Nat.le_of_ble_eq_true rfl) ?_
    rw [q20, q21, q22]
    show XG _ _ _ _ _ _ [] (hW 81 cf (va_up (va_up (va_up (va_up (va_up nv 0 (cf (i * 27))) 1 (cf ((i * 27) + 1))) 2 (cf ((i * 27) + 2))) 3 (cf ((i * 27) + 3))) 4 (cf ((i * 27) + 4))) (va_up (va_up (va_up na 5 (va_cpy cf (na 5) ((i * 27) + 5) 0 6)) 6 (va_cpy cf (na 6) (((i * 27) + 5) + 6) 0 6)) 7 (va_cpy cf (na 7) ((((i * 27) + 5) + 6) + 6) 0 5)))
    have q23 : ((nI ((((i * 27) + 5) + 6) + 6)) + (nI 5)) = (nI (((((i * 27) + 5) + 6) + 6) + 5)) := px_eadd rfl rfl
    refine XG.blk tX6_fetch_ok 74 8 (pc' := 139) (pl' := [some (.ref 0), some (.int (nI i)), some (.ref 2), some (.int ((nI ((((i * 27) + 5) + 6) + 6)) + (nI 5)))]) (st' := [(.int (nI 5)), (.int (nI 0)), (.ref 6), (.int ((nI ((((i * 27) + 5) + 6) + 6)) + (nI 5))), (.ref 1)]) (W1 := (hW 81 cf (va_up (va_up (va_up (va_up (va_up nv 0 (cf (i * 27))) 1 (cf ((i * 27) + 1))) 2 (cf ((i * 27) + 2))) 3 (cf ((i * 27) + 3))) 4 (cf ((i * 27) + 4))) (va_up (va_up (va_up na 5 (va_cpy cf (na 5) ((i * 27) + 5) 0 6)) 6 (va_cpy cf (na 6) (((i * 27) + 5) + 6) 0 6)) 7 (va_cpy cf (na 7) ((((i * 27) + 5) + 6) + 6) 0 5)))) (bs := []) rfl rfl rfl ?_
    simp only [q23]
    have q24 : (nI (((((i * 27) + 5) + 6) + 6) + 5)).toNatClampNeg = (((((i * 27) + 5) + 6) + 6) + 5) := nI_clamp (by omega)
    have q25 : (nI 0).toNatClampNeg = 0 := nI_clamp (by omega)
    have q26 : (nI 5).toNatClampNeg = 5 := nI_clamp (by omega)
    refine XG.copyi (q0 := 1) (q1 := 6) (n0 := 81) (n1 := 5) (f := cf) (g := (na 8)) eX6_fetch_139 kc_X6_46 rfl rfl (nI_nn (by omega)) (nI_nn (by omega)) (nI_nn (by omega)) (by rw [q24, q26]; omega) (by rw [q25, q26]; omega) (show 1 ≤ d by omega) (show 60 ≤ 60 * d by omega) (Nat.le_of_ble_eq_true rfl) ?_
    rw [q24, q25, q26]
    show XG _ _ _ _ _ _ [] (hW 81 cf (va_up (va_up (va_up (va_up (va_up nv 0 (cf (i * 27))) 1 (cf ((i * 27) + 1))) 2 (cf ((i * 27) + 2))) 3 (cf ((i * 27) + 3))) 4 (cf ((i * 27) + 4))) (va_up (va_up (va_up (va_up na 5 (va_cpy cf (na 5) ((i * 27) + 5) 0 6)) 6 (va_cpy cf (na 6) (((i * 27) + 5) + 6) 0 6)) 7 (va_cpy cf (na 7) ((((i * 27) + 5) + 6) + 6) 0 5)) 8 (va_cpy cf (na 8) (((((i * 27) + 5) + 6) + 6) + 5) 0 5)))
    refine XS.vret eX6_fetch_142 rfl ?_
    refine ⟨_, _, rfl, ⟨fun k hk => ?_, fun j hj => ⟨(pk_cpy_in (Nat.zero_le _) (by omega)).trans (congrArg cf (show _ = 27 * i + 5 + j by omega)), (pk_cpy_in (Nat.zero_le _) (by omega)).trans (congrArg cf (show _ = 27 * i + 11 + j by omega))⟩, fun j hj => ⟨(pk_cpy_in (Nat.zero_le _) (by omega)).trans (congrArg cf (show _ = 27 * i + 17 + j by omega)), (pk_cpy_in (Nat.zero_le _) (by omega)).trans (congrArg cf (show _ = 27 * i + 22 + j by omega))⟩⟩, rfl⟩
    match k, hk with | 0, _ => exact congrArg cf (show _ = 27 * i + 0 by omega) | 1, _ => exact congrArg cf (show _ = 27 * i + 1 by omega) | 2, _ => exact congrArg cf (show _ = 27 * i + 2 by omega) | 3, _ => exact congrArg cf (show _ = 27 * i + 3 by omega) | 4, _ => exact congrArg cf (show _ = 27 * i + 4 by omega)
  · exfalso
    have h5 := Decidable.not_not.mp h5
    have g5 : 1 = 0 := (nI_eq (a := 1) (b := 0) (by omega) (by omega)).mp h5
    omega
theorem cc_has6 (d : Nat) (cf : Nat → Int32) (nv : Nat → Int32) (na : Nat → Nat → Int32) (i : Nat) (hi : i < 6) : Con mX6_has d [.ref 0, .int (nI i)] (hW 162 cf nv na) (fun r W' => W' = hW 162 cf nv na ∧ r = some (.int 1)) := by
  refine Con.of (by decide) (Nat.le_of_ble_eq_true rfl) ?_
  refine XG.blk tX6_has_ok 0 1 (pc' := 1) (pl' := [some (.ref 0), some (.int (nI i))]) (st' := [(.int (nI i))]) (W1 := (hW 162 cf nv na)) (bs := []) rfl rfl rfl ?_
  refine XG.br eX6_has_1 (P := (nI i) < 0) (r := []) rfl (tgt := 20) (by decide) (fun h1 => ?_) (fun h1 => ?_)
  · exfalso
    have g1 : i < 0 := (nI_ltI (a := i) (b := 0) (by omega) (by omega)).mp h1
    omega
  · skip
    have g1 : ¬ i < 0 := (fun z => h1 ((nI_ltI (a := i) (b := 0) (by omega) (by omega)).mpr z))
    have q1 : ((nI 162) / (nI 27)) = (nI 6) := by decide
    refine XG.blk tX6_has_ok 2 6 (pc' := 13) (pl' := [some (.ref 0), some (.int (nI i))]) (st' := [(.int ((nI 162) / (nI 27))), (.int (nI i))]) (W1 := (hW 162 cf nv na)) (bs := [!((nI 27) == 0)]) rfl rfl (by (try simp only [q1]); exact (px_all (rfl) rfl)) ?_
    simp only [q1]
    refine XG.br eX6_has_13 (P := (nI 6) ≤ (nI i)) (r := []) rfl (tgt := 20) (by decide) (fun h13 => ?_) (fun h13 => ?_)
    · exfalso
      have g13 : 6 ≤ i := (nI_leI (a := 6) (b := i) (by omega) (by omega)).mp h13
      omega
    · skip
      have g13 : ¬ 6 ≤ i := (fun z => h13 ((nI_leI (a := 6) (b := i) (by omega) (by omega)).mpr z))
      refine XG.blk tX6_has_ok 9 1 (pc' := 17) (pl' := [some (.ref 0), some (.int (nI i))]) (st' := [(.int (nI 1))]) (W1 := (hW 162 cf nv na)) (bs := []) rfl rfl rfl ?_
      refine XG.goto eX6_has_17 (tgt := 21) (by decide) ?_
      refine XS.iret eX6_has_21 rfl (by decide) ?_
      exact ⟨rfl, rfl⟩
set_option maxHeartbeats 400000 in
theorem cc_store6 (d : Nat) (cf : Nat → Int32) (nv : Nat → Int32) (na : Nat → Nat → Int32) (i : Nat) (hi : i < 6) (hd : 1 ≤ d) : Con mX6_store d [.ref 0, .int (nI i), .ref 2] (hW 162 cf nv na) (fun r W' => W' = hW 162 (stF cf i nv na) nv na ∧ r = none) := by
  refine Con.of (by decide) (Nat.le_of_ble_eq_true rfl) ?_
  refine XG.blk tX6_store_ok 0 2 (pc' := 2) (pl' := [some (.ref 0), some (.int (nI i)), some (.ref 2), none]) (st' := [(.int (nI i)), (.ref 0)]) (W1 := (hW 162 cf nv na)) (bs := []) rfl rfl rfl ?_
  refine XG.callV0 eX6_store_2 kl_X6_23 (cc_has6 (d - 1) cf nv na i hi) (px_fitS (by omega)) rfl rfl rfl (Nat.le_of_ble_eq_true rfl) (fun r9 W9 hp9 hl9 => ?_)
  obtain ⟨rfl, rfl⟩ := hp9
  refine XG.br eX6_store_5 (P := ¬ 1 = 0) (r := []) rfl (tgt := 9) (by decide) (fun h5 => ?_) (fun h5 => ?_)
  · skip
    have g5 : ¬ 1 = 0 := (fun z => h5 ((nI_eq (a := 1) (b := 0) (by omega) (by omega)).mpr z))
    have q1 : ((nI i) * (nI 27)) = (nI (i * 27)) := px_emul rfl rfl
    have q2 : (nI (i * 27)).toNatClampNeg = (i * 27) := nI_clamp (by omega)
    have q3 : ((nI (i * 27)) + (nI 1)) = (nI ((i * 27) + 1)) := px_eadd rfl rfl
    have q4 : (nI ((i * 27) + 1)).toNatClampNeg = ((i * 27) + 1) := nI_clamp (by omega)
    have q5 : ((nI (i * 27)) + (nI 2)) = (nI ((i * 27) + 2)) := px_eadd rfl rfl
    have q6 : (nI ((i * 27) + 2)).toNatClampNeg = ((i * 27) + 2) := nI_clamp (by omega)
    have q7 : ((nI (i * 27)) + (nI 3)) = (nI ((i * 27) + 3)) := px_eadd rfl rfl
    have q8 : (nI ((i * 27) + 3)).toNatClampNeg = ((i * 27) + 3) := nI_clamp (by omega)
    have q9 : ((nI (i * 27)) + (nI 4)) = (nI ((i * 27) + 4)) := px_eadd rfl rfl
    have q10 : (nI ((i * 27) + 4)).toNatClampNeg = ((i * 27) + 4) := nI_clamp (by omega)
    have q11 : ((nI (i * 27)) + (nI 5)) = (nI ((i * 27) + 5)) := px_eadd rfl rfl
    refine XG.blk tX6_store_ok 5 50 (pc' := 87) (pl' := [some (.ref 0), some (.int (nI i)), some (.ref 2), some (.int (((nI i) * (nI 27)) + (nI 5)))]) (st' := [(.int (nI 6)), (.int (((nI i) * (nI 27)) + (nI 5))), (.ref 1), (.int (nI 0)), (.ref 3)]) (W1 := (hW 162 (upd (upd (upd (upd (upd cf ((nI i) * (nI 27)).toNatClampNeg (nv 0)) (((nI i) * (nI 27)) + (nI 1)).toNatClampNeg (nv 1)) (((nI i) * (nI 27)) + (nI 2)).toNatClampNeg (nv 2)) (((nI i) * (nI 27)) + (nI 3)).toNatClampNeg (nv 3)) (((nI i) * (nI 27)) + (nI 4)).toNatClampNeg (nv 4)) nv na)) (bs := [px_vb ((nI i) * (nI 27)) 162, px_vb (((nI i) * (nI 27)) + (nI 1)) 162, px_vb (((nI i) * (nI 27)) + (nI 2)) 162, px_vb (((nI i) * (nI 27)) + (nI 3)) 162, px_vb (((nI i) * (nI 27)) + (nI 4)) 162]) rfl rfl (by (try simp only [q1, q2, q3, q4, q5, q6, q7, q8, q9, q10, q11]); exact (px_all (px_vbN (by omega) (by decide)) (px_all (px_vbN (by omega) (by decide)) (px_all (px_vbN (by omega) (by decide)) (px_all (px_vbN (by omega) (by decide)) (px_all (px_vbN (by omega) (by decide)) rfl)))))) ?_
    simp only [q1, q2, q3, q4, q5, q6, q7, q8, q9, q10, q11]
    have q12 : (nI 0).toNatClampNeg = 0 := nI_clamp (by omega)
    have q13 : (nI ((i * 27) + 5)).toNatClampNeg = ((i * 27) + 5) := nI_clamp (by omega)
    have q14 : (nI 6).toNatClampNeg = 6 := nI_clamp (by omega)
    refine XG.copyi (q0 := 3) (q1 := 1) (n0 := 6) (n1 := 162) (f := (na 5)) (g := (upd (upd (upd (upd (upd cf (i * 27) (nv 0)) ((i * 27) + 1) (nv 1)) ((i * 27) + 2) (nv 2)) ((i * 27) + 3) (nv 3)) ((i * 27) + 4) (nv 4))) eX6_store_87 kc_X6_46 rfl rfl (nI_nn (by omega)) (nI_nn (by omega)) (nI_nn (by omega)) (by rw [q12, q14]; omega) (by rw [q13, q14]; omega) (show 1 ≤ d by omega) (show 60 ≤ 60 * d by omega) (Nat.le_of_ble_eq_true rfl) ?_
    rw [q12, q13, q14]
    show XG _ _ _ _ _ _ [] (hW 162 (va_cpy (na 5) (upd (upd (upd (upd (upd cf (i * 27) (nv 0)) ((i * 27) + 1) (nv 1)) ((i * 27) + 2) (nv 2)) ((i * 27) + 3) (nv 3)) ((i * 27) + 4) (nv 4)) 0 ((i * 27) + 5) 6) nv na)
    have q15 : ((nI ((i * 27) + 5)) + (nI 6)) = (nI (((i * 27) + 5) + 6)) := px_eadd rfl rfl
    refine XG.blk tX6_store_ok 56 8 (pc' := 105) (pl' := [some (.ref 0), some (.int (nI i)), some (.ref 2), some (.int ((nI ((i * 27) + 5)) + (nI 6)))]) (st' := [(.int (nI 6)), (.int ((nI ((i * 27) + 5)) + (nI 6))), (.ref 1), (.int (nI 0)), (.ref 4)]) (W1 := (hW 162 (va_cpy (na 5) (upd (upd (upd (upd (upd cf (i * 27) (nv 0)) ((i * 27) + 1) (nv 1)) ((i * 27) + 2) (nv 2)) ((i * 27) + 3) (nv 3)) ((i * 27) + 4) (nv 4)) 0 ((i * 27) + 5) 6) nv na)) (bs := []) rfl rfl rfl ?_
    simp only [q15]
    have q16 : (nI 0).toNatClampNeg = 0 := nI_clamp (by omega)
    have q17 : (nI (((i * 27) + 5) + 6)).toNatClampNeg = (((i * 27) + 5) + 6) := nI_clamp (by omega)
    have q18 : (nI 6).toNatClampNeg = 6 := nI_clamp (by omega)
    refine XG.copyi (q0 := 4) (q1 := 1) (n0 := 6) (n1 := 162) (f := (na 6)) (g := (va_cpy (na 5) (upd (upd (upd (upd (upd cf (i * 27) (nv 0)) ((i * 27) + 1) (nv 1)) ((i * 27) + 2) (nv 2)) ((i * 27) + 3) (nv 3)) ((i * 27) + 4) (nv 4)) 0 ((i * 27) + 5) 6)) eX6_store_105 kc_X6_46 rfl rfl (nI_nn (by omega)) (nI_nn (by omega)) (nI_nn (by omega)) (by rw [q16, q18]; omega) (by rw [q17, q18]; omega) (show 1 ≤ d by omega) (show 60 ≤ 60 * d by omega) (Nat.le_of_ble_eq_true rfl) ?_
    rw [q16, q17, q18]
    show XG _ _ _ _ _ _ [] (hW 162 (va_cpy (na 6) (va_cpy (na 5) (upd (upd (upd (upd (upd cf (i * 27) (nv 0)) ((i * 27) + 1) (nv 1)) ((i * 27) + 2) (nv 2)) ((i * 27) + 3) (nv 3)) ((i * 27) + 4) (nv 4)) 0 ((i * 27) + 5) 6) 0 (((i * 27) + 5) + 6) 6) nv na)
    have q19 : ((nI (((i * 27) + 5) + 6)) + (nI 6)) = (nI ((((i * 27) + 5) + 6) + 6)) := px_eadd rfl rfl
    refine XG.blk tX6_store_ok 65 8 (pc' := 122) (pl' := [some (.ref 0), some (.int (nI i)), some (.ref 2), some (.int ((nI (((i * 27) + 5) + 6)) + (nI 6)))]) (st' := [(.int (nI 5)), (.int ((nI (((i * 27) + 5) + 6)) + (nI 6))), (.ref 1), (.int (nI 0)), (.ref 5)]) (W1 := (hW 162 (va_cpy (na 6) (va_cpy (na 5) (upd (upd (upd (upd (upd cf (i * 27) (nv 0)) ((i * 27) + 1) (nv 1)) ((i * 27) + 2) (nv 2)) ((i * 27) + 3) (nv 3)) ((i * 27) + 4) (nv 4)) 0 ((i * 27) + 5) 6) 0 (((i * 27) + 5) + 6) 6) nv na)) (bs := []) rfl rfl rfl ?_
    simp only [q19]
    have q20 : (nI 0).toNatClampNeg = 0 := nI_clamp (by omega)
    have q21 : (nI ((((i * 27) + 5) + 6) + 6)).toNatClampNeg = ((((i * 27) + 5) + 6) + 6) := nI_clamp (by omega)
    have q22 : (nI 5).toNatClampNeg = 5 := nI_clamp (by omega)
    refine XG.copyi (q0 := 5) (q1 := 1) (n0 := 5) (n1 := 162) (f := (na 7)) (g := (va_cpy (na 6) (va_cpy (na 5) (upd (upd (upd (upd (upd cf (i * 27) (nv 0)) ((i * 27) + 1) (nv 1)) ((i * 27) + 2) (nv 2)) ((i * 27) + 3) (nv 3)) ((i * 27) + 4) (nv 4)) 0 ((i * 27) + 5) 6) 0 (((i * 27) + 5) + 6) 6)) eX6_store_122 kc_X6_46 rfl rfl (nI_nn (by omega)) (nI_nn (by omega)) (nI_nn (by omega)) (by rw [q20, q22]; omega) (by rw [q21, q22]; omega) (show 1 ≤ d by omega) (show 60 ≤ 60 * d by omega) (Nat.le_of_ble_eq_true rfl) ?_
    rw [q20, q21, q22]
    show XG _ _ _ _ _ _ [] (hW 162 (va_cpy (na 7) (va_cpy (na 6) (va_cpy (na 5) (upd (upd (upd (upd (upd cf (i * 27) (nv 0)) ((i * 27) + 1) (nv 1)) ((i * 27) + 2) (nv 2)) ((i * 27) + 3) (nv 3)) ((i * 27) + 4) (nv 4)) 0 ((i * 27) + 5) 6) 0 (((i * 27) + 5) + 6) 6) 0 ((((i * 27) + 5) + 6) + 6) 5) nv na)
    have q23 : ((nI ((((i * 27) + 5) + 6) + 6)) + (nI 5)) = (nI (((((i * 27) + 5) + 6) + 6) + 5)) := px_eadd rfl rfl
    refine XG.blk tX6_store_ok 74 8 (pc' := 139) (pl' := [some (.ref 0), some (.int (nI i)), some (.ref 2), some (.int ((nI ((((i * 27) + 5) + 6) + 6)) + (nI 5)))]) (st' := [(.int (nI 5)), (.int ((nI ((((i * 27) + 5) + 6) + 6)) + (nI 5))), (.ref 1), (.int (nI 0)), (.ref 6)]) (W1 := (hW 162 (va_cpy (na 7) (va_cpy (na 6) (va_cpy (na 5) (upd (upd (upd (upd (upd cf (i * 27) (nv 0)) ((i * 27) + 1) (nv 1)) ((i * 27) + 2) (nv 2)) ((i * 27) + 3) (nv 3)) ((i * 27) + 4) (nv 4)) 0 ((i * 27) + 5) 6) 0 (((i * 27) + 5) + 6) 6) 0 ((((i * 27) + 5) + 6) + 6) 5) nv na)) (bs := []) rfl rfl rfl ?_
    simp only [q23]
    have q24 : (nI 0).toNatClampNeg = 0 := nI_clamp (by omega)
    have q25 : (nI (((((i * 27) + 5) + 6) + 6) + 5)).toNatClampNeg = (((((i * 27) + 5) + 6) + 6) + 5) := nI_clamp (by omega)
    have q26 : (nI 5).toNatClampNeg = 5 := nI_clamp (by omega)
    refine XG.copyi (q0 := 6) (q1 := 1) (n0 := 5) (n1 := 162) (f := (na 8)) (g := (va_cpy (na 7) (va_cpy (na 6) (va_cpy (na 5) (upd (upd (upd (upd (upd cf (i * 27) (nv 0)) ((i * 27) + 1) (nv 1)) ((i * 27) + 2) (nv 2)) ((i * 27) + 3) (nv 3)) ((i * 27) + 4) (nv 4)) 0 ((i * 27) + 5) 6) 0 (((i * 27) + 5) + 6) 6) 0 ((((i * 27) + 5) + 6) + 6) 5)) eX6_store_139 kc_X6_46 rfl rfl (nI_nn (by omega)) (nI_nn (by omega)) (nI_nn (by omega)) (by rw [q24, q26]; omega) (by rw [q25, q26]; omega) (show 1 ≤ d by omega) (show 60 ≤ 60 * d by omega) (Nat.le_of_ble_eq_true rfl) ?_
    rw [q24, q25, q26]
    show XG _ _ _ _ _ _ [] (hW 162 (va_cpy (na 8) (va_cpy (na 7) (va_cpy (na 6) (va_cpy (na 5) (upd (upd (upd (upd (upd cf (i * 27) (nv 0)) ((i * 27) + 1) (nv 1)) ((i * 27) + 2) (nv 2)) ((i * 27) + 3) (nv 3)) ((i * 27) + 4) (nv 4)) 0 ((i * 27) + 5) 6) 0 (((i * 27) + 5) + 6) 6) 0 ((((i * 27) + 5) + 6) + 6) 5) 0 (((((i * 27) + 5) + 6) + 6) + 5) 5) nv na)
    refine XS.vret eX6_store_142 rfl ?_
    exact ⟨rfl, rfl⟩
  · exfalso
    have h5 := Decidable.not_not.mp h5
    have g5 : 1 = 0 := (nI_eq (a := 1) (b := 0) (by omega) (by omega)).mp h5
    omega
set_option maxHeartbeats 400000 in
theorem cc_fetch6 (d : Nat) (cf : Nat → Int32) (nv : Nat → Int32) (na : Nat → Nat → Int32) (i : Nat) (hi : i < 6) (hd : 1 ≤ d) : Con mX6_fetch d [.ref 0, .int (nI i), .ref 2] (hW 162 cf nv na) (fun r W' => ∃ nv' na', W' = hW 162 cf nv' na' ∧ NEq (shv cf i) (sha cf i) nv' na' ∧ r = none) := by
  refine Con.of (by decide) (Nat.le_of_ble_eq_true rfl) ?_
  refine XG.blk tX6_fetch_ok 0 2 (pc' := 2) (pl' := [some (.ref 0), some (.int (nI i)), some (.ref 2), none]) (st' := [(.int (nI i)), (.ref 0)]) (W1 := (hW 162 cf nv na)) (bs := []) rfl rfl rfl ?_
  refine XG.callV0 eX6_fetch_2 kl_X6_23 (cc_has6 (d - 1) cf nv na i hi) (px_fitS (by omega)) rfl rfl rfl (Nat.le_of_ble_eq_true rfl) (fun r9 W9 hp9 hl9 => ?_)
  obtain ⟨rfl, rfl⟩ := hp9
  refine XG.br eX6_fetch_5 (P := ¬ 1 = 0) (r := []) rfl (tgt := 9) (by decide) (fun h5 => ?_) (fun h5 => ?_)
  · skip
    have g5 : ¬ 1 = 0 := (fun z => h5 ((nI_eq (a := 1) (b := 0) (by omega) (by omega)).mpr z))
    have q1 : ((nI i) * (nI 27)) = (nI (i * 27)) := px_emul rfl rfl
    have q2 : (nI (i * 27)).toNatClampNeg = (i * 27) := nI_clamp (by omega)
    have q3 : ((nI (i * 27)) + (nI 1)) = (nI ((i * 27) + 1)) := px_eadd rfl rfl
    have q4 : (nI ((i * 27) + 1)).toNatClampNeg = ((i * 27) + 1) := nI_clamp (by omega)
    have q5 : ((nI (i * 27)) + (nI 2)) = (nI ((i * 27) + 2)) := px_eadd rfl rfl
    have q6 : (nI ((i * 27) + 2)).toNatClampNeg = ((i * 27) + 2) := nI_clamp (by omega)
    have q7 : ((nI (i * 27)) + (nI 3)) = (nI ((i * 27) + 3)) := px_eadd rfl rfl
    have q8 : (nI ((i * 27) + 3)).toNatClampNeg = ((i * 27) + 3) := nI_clamp (by omega)
    have q9 : ((nI (i * 27)) + (nI 4)) = (nI ((i * 27) + 4)) := px_eadd rfl rfl
    have q10 : (nI ((i * 27) + 4)).toNatClampNeg = ((i * 27) + 4) := nI_clamp (by omega)
    have q11 : ((nI (i * 27)) + (nI 5)) = (nI ((i * 27) + 5)) := px_eadd rfl rfl
    refine XG.blk tX6_fetch_ok 5 50 (pc' := 87) (pl' := [some (.ref 0), some (.int (nI i)), some (.ref 2), some (.int (((nI i) * (nI 27)) + (nI 5)))]) (st' := [(.int (nI 6)), (.int (nI 0)), (.ref 3), (.int (((nI i) * (nI 27)) + (nI 5))), (.ref 1)]) (W1 := (hW 162 cf (va_up (va_up (va_up (va_up (va_up nv 0 (cf ((nI i) * (nI 27)).toNatClampNeg)) 1 (cf (((nI i) * (nI 27)) + (nI 1)).toNatClampNeg)) 2 (cf (((nI i) * (nI 27)) + (nI 2)).toNatClampNeg)) 3 (cf (((nI i) * (nI 27)) + (nI 3)).toNatClampNeg)) 4 (cf (((nI i) * (nI 27)) + (nI 4)).toNatClampNeg)) na)) (bs := [px_vb ((nI i) * (nI 27)) 162, px_vb (((nI i) * (nI 27)) + (nI 1)) 162, px_vb (((nI i) * (nI 27)) + (nI 2)) 162, px_vb (((nI i) * (nI 27)) + (nI 3)) 162, px_vb (((nI i) * (nI 27)) + (nI 4)) 162]) rfl rfl (by (try simp only [q1, q2, q3, q4, q5, q6, q7, q8, q9, q10, q11]); exact (px_all (px_vbN (by omega) (by decide)) (px_all (px_vbN (by omega) (by decide)) (px_all (px_vbN (by omega) (by decide)) (px_all (px_vbN (by omega) (by decide)) (px_all (px_vbN (by omega) (by decide)) rfl)))))) ?_
    simp only [q1, q2, q3, q4, q5, q6, q7, q8, q9, q10, q11]
    have q12 : (nI ((i * 27) + 5)).toNatClampNeg = ((i * 27) + 5) := nI_clamp (by omega)
    have q13 : (nI 0).toNatClampNeg = 0 := nI_clamp (by omega)
    have q14 : (nI 6).toNatClampNeg = 6 := nI_clamp (by omega)
    refine XG.copyi (q0 := 1) (q1 := 3) (n0 := 162) (n1 := 6) (f := cf) (g := (na 5)) eX6_fetch_87 kc_X6_46 rfl rfl (nI_nn (by omega)) (nI_nn (by omega)) (nI_nn (by omega)) (by rw [q12, q14]; omega) (by rw [q13, q14]; omega) (show 1 ≤ d by omega) (show 60 ≤ 60 * d by omega) (Nat.le_of_ble_eq_true rfl) ?_
    rw [q12, q13, q14]
    show XG _ _ _ _ _ _ [] (hW 162 cf (va_up (va_up (va_up (va_up (va_up nv 0 (cf (i * 27))) 1 (cf ((i * 27) + 1))) 2 (cf ((i * 27) + 2))) 3 (cf ((i * 27) + 3))) 4 (cf ((i * 27) + 4))) (va_up na 5 (va_cpy cf (na 5) ((i * 27) + 5) 0 6)))
    have q15 : ((nI ((i * 27) + 5)) + (nI 6)) = (nI (((i * 27) + 5) + 6)) := px_eadd rfl rfl
    refine XG.blk tX6_fetch_ok 56 8 (pc' := 105) (pl' := [some (.ref 0), some (.int (nI i)), some (.ref 2), some (.int ((nI ((i * 27) + 5)) + (nI 6)))]) (st' := [(.int (nI 6)), (.int (nI 0)), (.ref 4), (.int ((nI ((i * 27) + 5)) + (nI 6))), (.ref 1)]) (W1 := (hW 162 cf (va_up (va_up (va_up (va_up (va_up nv 0 (cf (i * 27))) 1 (cf ((i * 27) + 1))) 2 (cf ((i * 27) + 2))) 3 (cf ((i * 27) + 3))) 4 (cf ((i * 27) + 4))) (va_up na 5 (va_cpy cf (na 5) ((i * 27) + 5) 0 6)))) (bs := []) rfl rfl rfl ?_
    simp only [q15]
    have q16 : (nI (((i * 27) + 5) + 6)).toNatClampNeg = (((i * 27) + 5) + 6) := nI_clamp (by omega)
    have q17 : (nI 0).toNatClampNeg = 0 := nI_clamp (by omega)
    have q18 : (nI 6).toNatClampNeg = 6 := nI_clamp (by omega)
    refine XG.copyi (q0 := 1) (q1 := 4) (n0 := 162) (n1 := 6) (f := cf) (g := (na 6)) eX6_fetch_105 kc_X6_46 rfl rfl (nI_nn (by omega)) (nI_nn (by omega)) (nI_nn (by omega)) (by rw [q16, q18]; omega) (by rw [q17, q18]; omega) (show 1 ≤ d by omega) (show 60 ≤ 60 * d by omega) (Nat.le_of_ble_eq_true rfl) ?_
    rw [q16, q17, q18]
    show XG _ _ _ _ _ _ [] (hW 162 cf (va_up (va_up (va_up (va_up (va_up nv 0 (cf (i * 27))) 1 (cf ((i * 27) + 1))) 2 (cf ((i * 27) + 2))) 3 (cf ((i * 27) + 3))) 4 (cf ((i * 27) + 4))) (va_up (va_up na 5 (va_cpy cf (na 5) ((i * 27) + 5) 0 6)) 6 (va_cpy cf (na 6) (((i * 27) + 5) + 6) 0 6)))
    have q19 : ((nI (((i * 27) + 5) + 6)) + (nI 6)) = (nI ((((i * 27) + 5) + 6) + 6)) := px_eadd rfl rfl
    refine XG.blk tX6_fetch_ok 65 8 (pc' := 122) (pl' := [some (.ref 0), some (.int (nI i)), some (.ref 2), some (.int ((nI (((i * 27) + 5) + 6)) + (nI 6)))]) (st' := [(.int (nI 5)), (.int (nI 0)), (.ref 5), (.int ((nI (((i * 27) + 5) + 6)) + (nI 6))), (.ref 1)]) (W1 := (hW 162 cf (va_up (va_up (va_up (va_up (va_up nv 0 (cf (i * 27))) 1 (cf ((i * 27) + 1))) 2 (cf ((i * 27) + 2))) 3 (cf ((i * 27) + 3))) 4 (cf ((i * 27) + 4))) (va_up (va_up na 5 (va_cpy cf (na 5) ((i * 27) + 5) 0 6)) 6 (va_cpy cf (na 6) (((i * 27) + 5) + 6) 0 6)))) (bs := []) rfl rfl rfl ?_
    simp only [q19]
    have q20 : (nI ((((i * 27) + 5) + 6) + 6)).toNatClampNeg = ((((i * 27) + 5) + 6) + 6) := nI_clamp (by omega)
    have q21 : (nI 0).toNatClampNeg = 0 := nI_clamp (by omega)
    have q22 : (nI 5).toNatClampNeg = 5 := nI_clamp (by omega)
    refine XG.copyi (q0 := 1) (q1 := 5) (n0 := 162) (n1 := 5) (f := cf) (g := (na 7)) eX6_fetch_122 kc_X6_46 rfl rfl (nI_nn (by omega)) (nI_nn (by omega)) (nI_nn (by omega)) (by rw [q20, q22]; omega) (by rw [q21, q22]; omega) (show 1 ≤ d by omega) (show 60 ≤ 60 * d by omega) (Nat.le_of_ble_eq_true rfl) ?_
    rw [q20, q21, q22]
    show XG _ _ _ _ _ _ [] (hW 162 cf (va_up (va_up (va_up (va_up (va_up nv 0 (cf (i * 27))) 1 (cf ((i * 27) + 1))) 2 (cf ((i * 27) + 2))) 3 (cf ((i * 27) + 3))) 4 (cf ((i * 27) + 4))) (va_up (va_up (va_up na 5 (va_cpy cf (na 5) ((i * 27) + 5) 0 6)) 6 (va_cpy cf (na 6) (((i * 27) + 5) + 6) 0 6)) 7 (va_cpy cf (na 7) ((((i * 27) + 5) + 6) + 6) 0 5)))
    have q23 : ((nI ((((i * 27) + 5) + 6) + 6)) + (nI 5)) = (nI (((((i * 27) + 5) + 6) + 6) + 5)) := px_eadd rfl rfl
    refine XG.blk tX6_fetch_ok 74 8 (pc' := 139) (pl' := [some (.ref 0), some (.int (nI i)), some (.ref 2), some (.int ((nI ((((i * 27) + 5) + 6) + 6)) + (nI 5)))]) (st' := [(.int (nI 5)), (.int (nI 0)), (.ref 6), (.int ((nI ((((i * 27) + 5) + 6) + 6)) + (nI 5))), (.ref 1)]) (W1 := (hW 162 cf (va_up (va_up (va_up (va_up (va_up nv 0 (cf (i * 27))) 1 (cf ((i * 27) + 1))) 2 (cf ((i * 27) + 2))) 3 (cf ((i * 27) + 3))) 4 (cf ((i * 27) + 4))) (va_up (va_up (va_up na 5 (va_cpy cf (na 5) ((i * 27) + 5) 0 6)) 6 (va_cpy cf (na 6) (((i * 27) + 5) + 6) 0 6)) 7 (va_cpy cf (na 7) ((((i * 27) + 5) + 6) + 6) 0 5)))) (bs := []) rfl rfl rfl ?_
    simp only [q23]
    have q24 : (nI (((((i * 27) + 5) + 6) + 6) + 5)).toNatClampNeg = (((((i * 27) + 5) + 6) + 6) + 5) := nI_clamp (by omega)
    have q25 : (nI 0).toNatClampNeg = 0 := nI_clamp (by omega)
    have q26 : (nI 5).toNatClampNeg = 5 := nI_clamp (by omega)
    refine XG.copyi (q0 := 1) (q1 := 6) (n0 := 162) (n1 := 5) (f := cf) (g := (na 8)) eX6_fetch_139 kc_X6_46 rfl rfl (nI_nn (by omega)) (nI_nn (by omega)) (nI_nn (by omega)) (by rw [q24, q26]; omega) (by rw [q25, q26]; omega) (show 1 ≤ d by omega) (show 60 ≤ 60 * d by omega) (Nat.le_of_ble_eq_true rfl) ?_
    rw [q24, q25, q26]
    show XG _ _ _ _ _ _ [] (hW 162 cf (va_up (va_up (va_up (va_up (va_up nv 0 (cf (i * 27))) 1 (cf ((i * 27) + 1))) 2 (cf ((i * 27) + 2))) 3 (cf ((i * 27) + 3))) 4 (cf ((i * 27) + 4))) (va_up (va_up (va_up (va_up na 5 (va_cpy cf (na 5) ((i * 27) + 5) 0 6)) 6 (va_cpy cf (na 6) (((i * 27) + 5) + 6) 0 6)) 7 (va_cpy cf (na 7) ((((i * 27) + 5) + 6) + 6) 0 5)) 8 (va_cpy cf (na 8) (((((i * 27) + 5) + 6) + 6) + 5) 0 5)))
    refine XS.vret eX6_fetch_142 rfl ?_
    refine ⟨_, _, rfl, ⟨fun k hk => ?_, fun j hj => ⟨(pk_cpy_in (Nat.zero_le _) (by omega)).trans (congrArg cf (show _ = 27 * i + 5 + j by omega)), (pk_cpy_in (Nat.zero_le _) (by omega)).trans (congrArg cf (show _ = 27 * i + 11 + j by omega))⟩, fun j hj => ⟨(pk_cpy_in (Nat.zero_le _) (by omega)).trans (congrArg cf (show _ = 27 * i + 17 + j by omega)), (pk_cpy_in (Nat.zero_le _) (by omega)).trans (congrArg cf (show _ = 27 * i + 22 + j by omega))⟩⟩, rfl⟩
    match k, hk with | 0, _ => exact congrArg cf (show _ = 27 * i + 0 by omega) | 1, _ => exact congrArg cf (show _ = 27 * i + 1 by omega) | 2, _ => exact congrArg cf (show _ = 27 * i + 2 by omega) | 3, _ => exact congrArg cf (show _ = 27 * i + 3 by omega) | 4, _ => exact congrArg cf (show _ = 27 * i + 4 by omega)
  · exfalso
    have h5 := Decidable.not_not.mp h5
    have g5 : 1 = 0 := (nI_eq (a := 1) (b := 0) (by omega) (by omega)).mp h5
    omega
