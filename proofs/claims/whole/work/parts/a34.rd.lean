/-! THE CLASS: names, pairs, steps -/
def gW (z : Int32) (st bg sk : Nat → Int32) : px_W := [.inr (0, [.ref 1, .ref 2, .ref 3, .int z]), .inl (.int, 404, .inl st), .inl (.int, 3, .inl bg), .inl (.int, 32, .inl sk)]
set_option maxHeartbeats 1000000 in
theorem pt_et (rv : Nat → Int32) (ra : Nat → Nat → Int32) (rb : Nat → Nat → Int64) (tv : Nat → Int32) (ta : Nat → Nat → Int32) (tb : Nat → Nat → Int64) (tv' : Nat → Int32) (ta' : Nat → Nat → Int32) (tb' : Nat → Nat → Int64) : px_pt (px_f [6, 7, 8, 9, 10, 11, 12, 13, 14, 15, 16, 17, 18, 19, 20]) [6, 7, 8, 9, 10, 11, 12, 13, 14, 15, 16, 17, 18, 19, 20] (tW tv' ta' tb') (dW rv ra rb (.ref 6) (xW tv ta tb)) = dW rv ra rb (.ref 6) (xW tv' ta' tb') := by
  unfold dW xW tW
  simp only [px_pt, List.set_cons_succ, List.set_cons_zero]
  rfl
theorem pt_eg (rv : Nat → Int32) (ra : Nat → Nat → Int32) (rb : Nat → Nat → Int64) (tv : Nat → Int32) (ta : Nat → Nat → Int32) (tb : Nat → Nat → Int64) (z : Int32) (st bg sk : Nat → Int32) : px_pt (px_f [17, 18, 19, 20]) [17, 18, 19, 20] (gW z st bg sk) (dW rv ra rb (.ref 6) (xW tv ta tb)) = dW rv ra rb (.ref 6) (xW (va_up tv 20 z) (va_up (va_up (va_up ta 20 st) 21 bg) 22 sk) tb) := by
  unfold dW xW gW
  simp only [px_pt, List.set_cons_succ, List.set_cons_zero]
  rfl
set_option maxHeartbeats 1000000 in
theorem cc_sleeperNamed (d : Nat) (tv : Nat → Int32) (ta : Nat → Nat → Int32) (tb : Nat → Nat → Int64) (y : Int64) (m : Nat) (hm : tv 1 = nI m) (hm2 : m ≤ 6) : Con mX7_sleeperNamed d [.ref 0, .long y] (tW tv ta tb) (fun r W' => W' = tW tv ta tb ∧ r = some (.int (ofF (findN (fun i => decide (tb 7 i = y)) m 0) (fun i => nI i) (-1)))) := by
  refine Con.of (by decide) (Nat.le_of_ble_eq_true rfl) ?_
  refine XG.blk tX7_sleeperNamed_ok 0 2 (pc' := 2) (pl' := [some (.ref 0), some (.long y), none, some (.int (nI 0))]) (st' := []) (W1 := (tW tv ta tb)) (bs := []) rfl rfl rfl ?_
  refine px_for m (fun i => ∀ (hF : findN (fun i => decide (tb 7 i = y)) (m - i) i = findN (fun i => decide (tb 7 i = y)) m 0), XG mX7_sleeperNamed _ 0 0 2 [some (.ref 0), some (.long y), none, some (.int (nI i))] [] (tW tv ta tb)) ?_ ?_ 0 (Nat.zero_le _) rfl
  · intro hF
    have q1 : (tv 1) = (nI m) := hm
    refine XG.blk tX7_sleeperNamed_ok 2 3 (pc' := 7) (pl' := [some (.ref 0), some (.long y), none, some (.int (nI m))]) (st' := [(.int (tv 1)), (.int (nI m))]) (W1 := (tW tv ta tb)) (bs := []) rfl rfl rfl ?_
    simp only [q1]
    refine XG.br eX7_sleeperNamed_7 (P := (nI m) ≤ (nI m)) (r := []) rfl (tgt := 29) (by decide) (fun h7 => ?_) (fun h7 => ?_)
    · skip
      have g7 : m ≤ m := (nI_leI (a := m) (b := m) (by omega) (by omega)).mp h7
      refine XG.blk tX7_sleeperNamed_ok 17 1 (pc' := 30) (pl' := [some (.ref 0), some (.long y), none, some (.int (nI m))]) (st' := [(.int (-1))]) (W1 := (tW tv ta tb)) (bs := []) rfl rfl rfl ?_
      refine XS.iret eX7_sleeperNamed_30 rfl rfl ?_
      refine ⟨rfl, ?_⟩
      rw [← hF, Nat.sub_self]; rfl
    · exfalso
      have g7 : ¬ m ≤ m := (fun z_9 => h7 ((nI_leI (a := m) (b := m) (by omega) (by omega)).mpr z_9))
      omega
  · intro i hi ihi hF
    have q2 : (tv 1) = (nI m) := hm
    refine XG.blk tX7_sleeperNamed_ok 2 3 (pc' := 7) (pl' := [some (.ref 0), some (.long y), none, some (.int (nI i))]) (st' := [(.int (tv 1)), (.int (nI i))]) (W1 := (tW tv ta tb)) (bs := []) rfl rfl rfl ?_
    simp only [q2]
    refine XG.br eX7_sleeperNamed_7 (P := (nI m) ≤ (nI i)) (r := []) rfl (tgt := 29) (by decide) (fun h7 => ?_) (fun h7 => ?_)
    · exfalso
      have g7 : m ≤ i := (nI_leI (a := m) (b := i) (by omega) (by omega)).mp h7
      omega
    · skip
      have g7 : ¬ m ≤ i := (fun z_9 => h7 ((nI_leI (a := m) (b := i) (by omega) (by omega)).mpr z_9))
      have q3 : (nI i).toNatClampNeg = i := nI_clamp (by omega)
      refine XG.blk tX7_sleeperNamed_ok 6 6 (pc' := 18) (pl' := [some (.ref 0), some (.long y), none, some (.int (nI i))]) (st' := [(.int (lg_cmp ((tb 7) (nI i).toNatClampNeg) y))]) (W1 := (tW tv ta tb)) (bs := [px_vb (nI i) 6]) rfl rfl (by (try simp only [q3]); exact (px_all (px_vbN (by omega) (by decide)) rfl)) ?_
      simp only [q3]
      refine XG.br eX7_sleeperNamed_18 (P := ¬ (lg_cmp ((tb 7) i) y) = 0) (r := []) rfl (tgt := 23) (by decide) (fun h18 => ?_) (fun h18 => ?_)
      · skip
        have q4 : ((nI i) + (nI 1)) = (nI (i + 1)) := px_eadd rfl rfl
        refine XG.blk tX7_sleeperNamed_ok 15 1 (pc' := 26) (pl' := [some (.ref 0), some (.long y), none, some (.int ((nI i) + (nI 1)))]) (st' := []) (W1 := (tW tv ta tb)) (bs := []) rfl rfl rfl ?_
        simp only [q4]
        refine XG.goto eX7_sleeperNamed_26 (tgt := 2) (by decide) ?_
        refine ihi ?_
        rw [← hF, show m - i = m - (i + 1) + 1 by omega]
        show _ = (if (fun i => decide (tb 7 i = y)) i = true then _ else _)
        rw [if_neg (fun w => h18 (cmp_eq.mpr (of_decide_eq_true w)))]
      · skip
        have h18 := Decidable.not_not.mp h18
        refine XG.blk tX7_sleeperNamed_ok 13 1 (pc' := 22) (pl' := [some (.ref 0), some (.long y), none, some (.int (nI i))]) (st' := [(.int (nI i))]) (W1 := (tW tv ta tb)) (bs := []) rfl rfl rfl ?_
        refine XS.iret eX7_sleeperNamed_22 rfl rfl ?_
        refine ⟨rfl, ?_⟩
        rw [← hF, show m - i = (m - i - 1) + 1 by omega, show findN (fun i => decide (tb 7 i = y)) ((m - i - 1) + 1) i = some i from if_pos (decide_eq_true (cmp_eq.mp h18))]; rfl
theorem ofF_no {p : Nat → Bool} {m : Nat} (hm : m ≤ 6) : ofF (findN p m 0) (fun i => nI i) (-1) = -1 ↔ ¬ (findN p m 0).isSome = true := by
  cases h : findN p m 0 with
  | none => simp [ofF]
  | some j =>
    have := findN_some _ _ _ h
    refine ⟨fun e => ?_, fun e => absurd rfl e⟩
    exfalso
    have e := congrArg Int32.toInt (show nI j = -1 from e)
    rw [nI_toInt (by omega), show (-1 : Int32).toInt = -1 from rfl] at e
    omega
set_option maxHeartbeats 1000000 in
theorem cc_isTaken (d : Nat) (tv : Nat → Int32) (ta : Nat → Nat → Int32) (tb : Nat → Nat → Int64) (y : Int64) (m c : Nat) (hm : tv 1 = nI m) (hm2 : m ≤ 6) (hc : tv 3 = nI c) (hc2 : c ≤ 5) (hd : 1 ≤ d) : Con mX7_isTaken d [.ref 0, .long y] (tW tv ta tb) (fun r W' => W' = tW tv ta tb ∧ r = some (.int (if (findN (fun i => decide (tb 13 i = y)) c 0).isSome = true ∨ (findN (fun i => decide (tb 7 i = y)) m 0).isSome = true then 1 else 0))) := by
  refine Con.of (by decide) (Nat.le_of_ble_eq_true rfl) ?_
  refine XG.blk tX7_isTaken_ok 0 2 (pc' := 2) (pl' := [some (.ref 0), some (.long y), none, some (.int (nI 0))]) (st' := []) (W1 := (tW tv ta tb)) (bs := []) rfl rfl rfl ?_
  refine px_for c (fun i => ∀ (hF : findN (fun i => decide (tb 13 i = y)) (c - i) i = findN (fun i => decide (tb 13 i = y)) c 0), XG mX7_isTaken _ 0 0 2 [some (.ref 0), some (.long y), none, some (.int (nI i))] [] (tW tv ta tb)) ?_ ?_ 0 (Nat.zero_le _) rfl
  · intro hF
    have q1 : (tv 3) = (nI c) := hc
    refine XG.blk tX7_isTaken_ok 2 3 (pc' := 7) (pl' := [some (.ref 0), some (.long y), none, some (.int (nI c))]) (st' := [(.int (tv 3)), (.int (nI c))]) (W1 := (tW tv ta tb)) (bs := []) rfl rfl rfl ?_
    simp only [q1]
    refine XG.br eX7_isTaken_7 (P := (nI c) ≤ (nI c)) (r := []) rfl (tgt := 29) (by decide) (fun h7 => ?_) (fun h7 => ?_)
    · skip
      have g7 : c ≤ c := (nI_leI (a := c) (b := c) (by omega) (by omega)).mp h7
      refine XG.blk tX7_isTaken_ok 17 2 (pc' := 31) (pl' := [some (.ref 0), some (.long y), none, some (.int (nI c))]) (st' := [(.long y), (.ref 0)]) (W1 := (tW tv ta tb)) (bs := []) rfl rfl rfl ?_
      refine XG.callV0 eX7_isTaken_31 kl_X7_76 (cc_sleeperNamed (d - 1) tv ta tb y m hm hm2) (px_fitS (by omega)) rfl rfl rfl (Nat.le_of_ble_eq_true rfl) (fun r9 W9 hp9 hl9 => ?_)
      obtain ⟨rfl, rfl⟩ := hp9
      refine XG.blk tX7_isTaken_ok 20 1 (pc' := 35) (pl' := [some (.ref 0), some (.long y), none, some (.int (nI c))]) (st' := [(.int (-1)), (.int (ofF (findN (fun i => decide (tb 7 i = y)) m 0) (fun i => nI i) (-1)))]) (W1 := (tW tv ta tb)) (bs := []) rfl rfl rfl ?_
      refine XG.br eX7_isTaken_35 (P := (ofF (findN (fun i => decide (tb 7 i = y)) m 0) (fun i => nI i) (-1)) = (-1)) (r := []) rfl (tgt := 42) (by decide) (fun h35 => ?_) (fun h35 => ?_)
      · skip
        refine XG.blk tX7_isTaken_ok 24 1 (pc' := 43) (pl' := [some (.ref 0), some (.long y), none, some (.int (nI c))]) (st' := [(.int (nI 0))]) (W1 := (tW tv ta tb)) (bs := []) rfl rfl rfl ?_
        refine XS.iret eX7_isTaken_43 rfl (by decide) ?_
        refine ⟨rfl, ?_⟩
        rw [if_neg (fun w => w.elim (fun w => by rw [← hF, Nat.sub_self] at w; cases w) (fun w => (ofF_no hm2).mp h35 w))]; rfl
      · skip
        refine XG.blk tX7_isTaken_ok 22 1 (pc' := 39) (pl' := [some (.ref 0), some (.long y), none, some (.int (nI c))]) (st' := [(.int (nI 1))]) (W1 := (tW tv ta tb)) (bs := []) rfl rfl rfl ?_
        refine XG.goto eX7_isTaken_39 (tgt := 43) (by decide) ?_
        refine XS.iret eX7_isTaken_43 rfl (by decide) ?_
        refine ⟨rfl, ?_⟩
        rw [if_pos (Or.inr (Decidable.not_not.mp (fun w => h35 ((ofF_no hm2).mpr w))))]; rfl
    · exfalso
      have g7 : ¬ c ≤ c := (fun z_9 => h7 ((nI_leI (a := c) (b := c) (by omega) (by omega)).mpr z_9))
      omega
  · intro i hi ihi hF
    have q2 : (tv 3) = (nI c) := hc
    refine XG.blk tX7_isTaken_ok 2 3 (pc' := 7) (pl' := [some (.ref 0), some (.long y), none, some (.int (nI i))]) (st' := [(.int (tv 3)), (.int (nI i))]) (W1 := (tW tv ta tb)) (bs := []) rfl rfl rfl ?_
    simp only [q2]
    refine XG.br eX7_isTaken_7 (P := (nI c) ≤ (nI i)) (r := []) rfl (tgt := 29) (by decide) (fun h7 => ?_) (fun h7 => ?_)
    · exfalso
      have g7 : c ≤ i := (nI_leI (a := c) (b := i) (by omega) (by omega)).mp h7
      omega
    · skip
      have g7 : ¬ c ≤ i := (fun z_9 => h7 ((nI_leI (a := c) (b := i) (by omega) (by omega)).mpr z_9))
      have q3 : (nI i).toNatClampNeg = i := nI_clamp (by omega)
      refine XG.blk tX7_isTaken_ok 6 6 (pc' := 18) (pl' := [some (.ref 0), some (.long y), none, some (.int (nI i))]) (st' := [(.int (lg_cmp ((tb 13) (nI i).toNatClampNeg) y))]) (W1 := (tW tv ta tb)) (bs := [px_vb (nI i) 5]) rfl rfl (by (try simp only [q3]); exact (px_all (px_vbN (by omega) (by decide)) rfl)) ?_
      simp only [q3]
      refine XG.br eX7_isTaken_18 (P := ¬ (lg_cmp ((tb 13) i) y) = 0) (r := []) rfl (tgt := 23) (by decide) (fun h18 => ?_) (fun h18 => ?_)
      · skip
        have q4 : ((nI i) + (nI 1)) = (nI (i + 1)) := px_eadd rfl rfl
        refine XG.blk tX7_isTaken_ok 15 1 (pc' := 26) (pl' := [some (.ref 0), some (.long y), none, some (.int ((nI i) + (nI 1)))]) (st' := []) (W1 := (tW tv ta tb)) (bs := []) rfl rfl rfl ?_
        simp only [q4]
        refine XG.goto eX7_isTaken_26 (tgt := 2) (by decide) ?_
        refine ihi ?_
        rw [← hF, show c - i = c - (i + 1) + 1 by omega]
        show _ = (if (fun i => decide (tb 13 i = y)) i = true then _ else _)
        rw [if_neg (fun w => h18 (cmp_eq.mpr (of_decide_eq_true w)))]
      · skip
        have h18 := Decidable.not_not.mp h18
        refine XG.blk tX7_isTaken_ok 13 1 (pc' := 22) (pl' := [some (.ref 0), some (.long y), none, some (.int (nI i))]) (st' := [(.int (nI 1))]) (W1 := (tW tv ta tb)) (bs := []) rfl rfl rfl ?_
        refine XS.iret eX7_isTaken_22 rfl (by decide) ?_
        refine ⟨rfl, ?_⟩
        rw [if_pos (Or.inl (by rw [← hF, show c - i = (c - i - 1) + 1 by omega, show findN (fun i => decide (tb 13 i = y)) ((c - i - 1) + 1) i = some i from if_pos (decide_eq_true (cmp_eq.mp h18))]; rfl))]; rfl
set_option maxHeartbeats 1000000 in
theorem cc_hasPair (d : Nat) (tv : Nat → Int32) (ta : Nat → Nat → Int32) (tb : Nat → Nat → Int64) (y : Int32) (m : Nat) (hm : tv 2 = nI m) (hm2 : m ≤ 6) : Con mX7_hasPair d [.ref 0, .int y] (tW tv ta tb) (fun r W' => W' = tW tv ta tb ∧ r = some (.int (if (findN (fun i => decide (ta 12 i = y)) m 0).isSome = true then 1 else 0))) := by
  refine Con.of (by decide) (Nat.le_of_ble_eq_true rfl) ?_
  refine XG.blk tX7_hasPair_ok 0 2 (pc' := 2) (pl' := [some (.ref 0), some (.int y), some (.int (nI 0))]) (st' := []) (W1 := (tW tv ta tb)) (bs := []) rfl rfl rfl ?_
  refine px_for m (fun i => ∀ (hF : findN (fun i => decide (ta 12 i = y)) (m - i) i = findN (fun i => decide (ta 12 i = y)) m 0), XG mX7_hasPair _ 0 0 2 [some (.ref 0), some (.int y), some (.int (nI i))] [] (tW tv ta tb)) ?_ ?_ 0 (Nat.zero_le _) rfl
  · intro hF
    have q1 : (tv 2) = (nI m) := hm
    refine XG.blk tX7_hasPair_ok 2 3 (pc' := 7) (pl' := [some (.ref 0), some (.int y), some (.int (nI m))]) (st' := [(.int (tv 2)), (.int (nI m))]) (W1 := (tW tv ta tb)) (bs := []) rfl rfl rfl ?_
    simp only [q1]
    refine XG.br eX7_hasPair_7 (P := (nI m) ≤ (nI m)) (r := []) rfl (tgt := 28) (by decide) (fun h7 => ?_) (fun h7 => ?_)
    · skip
      have g7 : m ≤ m := (nI_leI (a := m) (b := m) (by omega) (by omega)).mp h7
      refine XG.blk tX7_hasPair_ok 16 1 (pc' := 29) (pl' := [some (.ref 0), some (.int y), some (.int (nI m))]) (st' := [(.int (nI 0))]) (W1 := (tW tv ta tb)) (bs := []) rfl rfl rfl ?_
      refine XS.iret eX7_hasPair_29 rfl (by decide) ?_
      refine ⟨rfl, ?_⟩
      rw [← hF, Nat.sub_self]; rfl
    · exfalso
      have g7 : ¬ m ≤ m := (fun z_9 => h7 ((nI_leI (a := m) (b := m) (by omega) (by omega)).mpr z_9))
      omega
  · intro i hi ihi hF
    have q2 : (tv 2) = (nI m) := hm
    refine XG.blk tX7_hasPair_ok 2 3 (pc' := 7) (pl' := [some (.ref 0), some (.int y), some (.int (nI i))]) (st' := [(.int (tv 2)), (.int (nI i))]) (W1 := (tW tv ta tb)) (bs := []) rfl rfl rfl ?_
    simp only [q2]
    refine XG.br eX7_hasPair_7 (P := (nI m) ≤ (nI i)) (r := []) rfl (tgt := 28) (by decide) (fun h7 => ?_) (fun h7 => ?_)
    · exfalso
      have g7 : m ≤ i := (nI_leI (a := m) (b := i) (by omega) (by omega)).mp h7
      omega
    · skip
      have g7 : ¬ m ≤ i := (fun z_9 => h7 ((nI_leI (a := m) (b := i) (by omega) (by omega)).mpr z_9))
      have q3 : (nI i).toNatClampNeg = i := nI_clamp (by omega)
      refine XG.blk tX7_hasPair_ok 6 5 (pc' := 17) (pl' := [some (.ref 0), some (.int y), some (.int (nI i))]) (st' := [(.int y), (.int ((ta 12) (nI i).toNatClampNeg))]) (W1 := (tW tv ta tb)) (bs := [px_vb (nI i) 6]) rfl rfl (by (try simp only [q3]); exact (px_all (px_vbN (by omega) (by decide)) rfl)) ?_
      simp only [q3]
      refine XG.br eX7_hasPair_17 (P := ¬ ((ta 12) i) = y) (r := []) rfl (tgt := 22) (by decide) (fun h17 => ?_) (fun h17 => ?_)
      · skip
        have q4 : ((nI i) + (nI 1)) = (nI (i + 1)) := px_eadd rfl rfl
        refine XG.blk tX7_hasPair_ok 14 1 (pc' := 25) (pl' := [some (.ref 0), some (.int y), some (.int ((nI i) + (nI 1)))]) (st' := []) (W1 := (tW tv ta tb)) (bs := []) rfl rfl rfl ?_
        simp only [q4]
        refine XG.goto eX7_hasPair_25 (tgt := 2) (by decide) ?_
        refine ihi ?_
        rw [← hF, show m - i = m - (i + 1) + 1 by omega]
        show _ = (if (fun i => decide (ta 12 i = y)) i = true then _ else _)
        rw [if_neg (fun w => h17 (of_decide_eq_true w))]
      · skip
        have h17 := Decidable.not_not.mp h17
        refine XG.blk tX7_hasPair_ok 12 1 (pc' := 21) (pl' := [some (.ref 0), some (.int y), some (.int (nI i))]) (st' := [(.int (nI 1))]) (W1 := (tW tv ta tb)) (bs := []) rfl rfl rfl ?_
        refine XS.iret eX7_hasPair_21 rfl (by decide) ?_
        refine ⟨rfl, ?_⟩
        rw [← hF, show m - i = (m - i - 1) + 1 by omega, show findN (fun i => decide (ta 12 i = y)) ((m - i - 1) + 1) i = some i from if_pos (decide_eq_true h17)]; rfl
set_option maxHeartbeats 1000000 in
theorem cc_someLie (d : Nat) (tv : Nat → Int32) (ta : Nat → Nat → Int32) (tb : Nat → Nat → Int64) (m : Nat) (hm : tv 1 = nI m) (hm2 : m ≤ 6) : Con mX7_someLieOutside d [.ref 0] (tW tv ta tb) (fun r W' => W' = tW tv ta tb ∧ r = some (.int (if (findN (fun i => decide (tv 0 ≤ ta 11 i)) m 0).isSome = true then 1 else 0))) := by
  refine Con.of (by decide) (Nat.le_of_ble_eq_true rfl) ?_
  refine XG.blk tX7_someLieOutside_ok 0 2 (pc' := 2) (pl' := [some (.ref 0), some (.int (nI 0))]) (st' := []) (W1 := (tW tv ta tb)) (bs := []) rfl rfl rfl ?_
  refine px_for m (fun i => ∀ (hF : findN (fun i => decide (tv 0 ≤ ta 11 i)) (m - i) i = findN (fun i => decide (tv 0 ≤ ta 11 i)) m 0), XG mX7_someLieOutside _ 0 0 2 [some (.ref 0), some (.int (nI i))] [] (tW tv ta tb)) ?_ ?_ 0 (Nat.zero_le _) rfl
  · intro hF
    have q1 : (tv 1) = (nI m) := hm
    refine XG.blk tX7_someLieOutside_ok 2 3 (pc' := 7) (pl' := [some (.ref 0), some (.int (nI m))]) (st' := [(.int (tv 1)), (.int (nI m))]) (W1 := (tW tv ta tb)) (bs := []) rfl rfl rfl ?_
    simp only [q1]
    refine XG.br eX7_someLieOutside_7 (P := (nI m) ≤ (nI m)) (r := []) rfl (tgt := 31) (by decide) (fun h7 => ?_) (fun h7 => ?_)
    · skip
      have g7 : m ≤ m := (nI_leI (a := m) (b := m) (by omega) (by omega)).mp h7
      refine XG.blk tX7_someLieOutside_ok 17 1 (pc' := 32) (pl' := [some (.ref 0), some (.int (nI m))]) (st' := [(.int (nI 0))]) (W1 := (tW tv ta tb)) (bs := []) rfl rfl rfl ?_
      refine XS.iret eX7_someLieOutside_32 rfl (by decide) ?_
      refine ⟨rfl, ?_⟩
      rw [← hF, Nat.sub_self]; rfl
    · exfalso
      have g7 : ¬ m ≤ m := (fun z_9 => h7 ((nI_leI (a := m) (b := m) (by omega) (by omega)).mpr z_9))
      omega
  · intro i hi ihi hF
    have q2 : (tv 1) = (nI m) := hm
    refine XG.blk tX7_someLieOutside_ok 2 3 (pc' := 7) (pl' := [some (.ref 0), some (.int (nI i))]) (st' := [(.int (tv 1)), (.int (nI i))]) (W1 := (tW tv ta tb)) (bs := []) rfl rfl rfl ?_
    simp only [q2]
    refine XG.br eX7_someLieOutside_7 (P := (nI m) ≤ (nI i)) (r := []) rfl (tgt := 31) (by decide) (fun h7 => ?_) (fun h7 => ?_)
    · exfalso
      have g7 : m ≤ i := (nI_leI (a := m) (b := i) (by omega) (by omega)).mp h7
      omega
    · skip
      have g7 : ¬ m ≤ i := (fun z_9 => h7 ((nI_leI (a := m) (b := i) (by omega) (by omega)).mpr z_9))
      have q3 : (nI i).toNatClampNeg = i := nI_clamp (by omega)
      refine XG.blk tX7_someLieOutside_ok 6 6 (pc' := 20) (pl' := [some (.ref 0), some (.int (nI i))]) (st' := [(.int (tv 0)), (.int ((ta 11) (nI i).toNatClampNeg))]) (W1 := (tW tv ta tb)) (bs := [px_vb (nI i) 6]) rfl rfl (by (try simp only [q3]); exact (px_all (px_vbN (by omega) (by decide)) rfl)) ?_
      simp only [q3]
      refine XG.br eX7_someLieOutside_20 (P := ((ta 11) i) < (tv 0)) (r := []) rfl (tgt := 25) (by decide) (fun h20 => ?_) (fun h20 => ?_)
      · skip
        have q4 : ((nI i) + (nI 1)) = (nI (i + 1)) := px_eadd rfl rfl
        refine XG.blk tX7_someLieOutside_ok 15 1 (pc' := 28) (pl' := [some (.ref 0), some (.int ((nI i) + (nI 1)))]) (st' := []) (W1 := (tW tv ta tb)) (bs := []) rfl rfl rfl ?_
        simp only [q4]
        refine XG.goto eX7_someLieOutside_28 (tgt := 2) (by decide) ?_
        refine ihi ?_
        rw [← hF, show m - i = m - (i + 1) + 1 by omega]
        show _ = (if (fun i => decide (tv 0 ≤ ta 11 i)) i = true then _ else _)
        rw [if_neg (fun w => Int32.not_lt.mpr (of_decide_eq_true w) h20)]
      · skip
        refine XG.blk tX7_someLieOutside_ok 13 1 (pc' := 24) (pl' := [some (.ref 0), some (.int (nI i))]) (st' := [(.int (nI 1))]) (W1 := (tW tv ta tb)) (bs := []) rfl rfl rfl ?_
        refine XS.iret eX7_someLieOutside_24 rfl (by decide) ?_
        refine ⟨rfl, ?_⟩
        rw [← hF, show m - i = (m - i - 1) + 1 by omega, show findN (fun i => decide (tv 0 ≤ ta 11 i)) ((m - i - 1) + 1) i = some i from if_pos (decide_eq_true (Int32.not_lt.mp h20))]; rfl
def stX (x v : Int32) : Int32 := (v <<< (nI 3 &&& 31)) ||| x
theorem stX_n {x v : Nat} (hx : x < 8) (hv : v < 100000) : stX (nI x) (nI v) = nI (8 * v + x) := by
  unfold stX
  have e : nI v <<< (nI 3 &&& 31) = nI (8 * v) := by
    apply Int32.toBitVec_inj.mp
    rw [Int32.toBitVec_shiftLeft, show (nI 3 &&& 31 : Int32) = 3 from by decide]
    show BitVec.ofNat 32 v <<< ((3 : Int32).toBitVec.smod 32) = BitVec.ofNat 32 (8 * v)
    rw [show ((3 : Int32).toBitVec.smod 32) = 3#32 from by decide, show BitVec.ofNat 32 v <<< 3#32 = BitVec.ofNat 32 v <<< 3 from rfl]
    apply BitVec.eq_of_toNat_eq
    rw [BitVec.toNat_shiftLeft, BitVec.toNat_ofNat, BitVec.toNat_ofNat, Nat.mod_eq_of_lt (show v < 2 ^ 32 by omega), Nat.shiftLeft_eq]
    congr 1
    omega
  rw [e, nx_or]
  congr 1
  have h8 : 8 * v = v <<< 3 := by rw [Nat.shiftLeft_eq]; omega
  rw [h8, ← Nat.shiftLeft_add_eq_or_of_lt (show x < 2 ^ 3 by omega)]
def adS (st : Nat → Int32) (z : Nat) (x : Int32) : Nat → Int32 := if z < 404 then upd st z x else st
def adZ (z : Nat) : Nat := if z < 404 then z + 1 else z
theorem cc_begin (d z : Nat) (st bg sk : Nat → Int32) (hz : z ≤ 404) (k : Nat) (hk : k < 3) : Con mX0_begin d [.ref 0, .int (nI k)] (gW (nI z) st bg sk) (fun r W' => W' = gW (nI z) st (upd bg k (nI z)) sk ∧ r = none) := by
  refine Con.of (by decide) (Nat.le_of_ble_eq_true rfl) ?_
  have q1 : (nI k).toNatClampNeg = k := nI_clamp (by omega)
  refine XG.blk tX0_begin_ok 0 6 (pc' := 10) (pl' := [some (.ref 0), some (.int (nI k))]) (st' := []) (W1 := (gW (nI z) st (upd bg (nI k).toNatClampNeg (nI z)) sk)) (bs := [px_vb (nI k) 3]) rfl rfl (by (try simp only [q1]); exact (px_all (px_vbN (by omega) (by decide)) rfl)) ?_
  simp only [q1]
  refine XS.vret eX0_begin_10 rfl ?_
  exact ⟨rfl, rfl⟩
theorem cc_lawAdd (d z : Nat) (st bg sk : Nat → Int32) (hz : z ≤ 404) (x v : Int32) : Con mX0_add d [.ref 0, .int x, .int v] (gW (nI z) st bg sk) (fun r W' => W' = gW (nI (adZ z)) (adS st z (stX x v)) bg sk ∧ r = none) := by
  refine Con.of (by decide) (Nat.le_of_ble_eq_true rfl) ?_
  refine XG.blk tX0_add_ok 0 3 (pc' := 7) (pl' := [some (.ref 0), some (.int x), some (.int v)]) (st' := [(.int (nI 404)), (.int (nI z))]) (W1 := (gW (nI z) st bg sk)) (bs := []) rfl rfl rfl ?_
  refine XG.br eX0_add_7 (P := (nI 404) ≤ (nI z)) (r := []) rfl (tgt := 34) (by decide) (fun h7 => ?_) (fun h7 => ?_)
  · skip
    have g7 : 404 ≤ z := (nI_leI (a := 404) (b := z) (by omega) (by omega)).mp h7
    refine XS.vret eX0_add_34 rfl ?_
    exact ⟨by unfold adZ adS; rw [if_neg (by omega), if_neg (by omega)], rfl⟩
  · skip
    have g7 : ¬ 404 ≤ z := (fun z_9 => h7 ((nI_leI (a := 404) (b := z) (by omega) (by omega)).mpr z_9))
    have q1 : (nI z).toNatClampNeg = z := nI_clamp (by omega)
    have q2 : ((nI z) + (nI 1)) = (nI (z + 1)) := px_eadd rfl rfl
    refine XG.blk tX0_add_ok 4 16 (pc' := 34) (pl' := [some (.ref 0), some (.int x), some (.int v)]) (st' := []) (W1 := (gW ((nI z) + (nI 1)) (upd st (nI z).toNatClampNeg ((v <<< ((nI 3) &&& 31)) ||| x)) bg sk)) (bs := [px_vb (nI z) 404]) rfl rfl (by (try simp only [q1, q2]); exact (px_all (px_vbN (by omega) (by decide)) rfl)) ?_
    simp only [q1, q2]
    refine XS.vret eX0_add_34 rfl ?_
    exact ⟨by unfold adZ adS; rw [if_pos (by omega), if_pos (by omega)]; rfl, rfl⟩
theorem adZ_le {z : Nat} (h : z ≤ 404) : adZ z ≤ 404 := by unfold adZ; split <;> omega
theorem adZ_lt {z : Nat} (h : z < 404) : adZ z = z + 1 := if_pos h
theorem adS_lt {st : Nat → Int32} {z : Nat} {x : Int32} (h : z < 404) : adS st z x = upd st z x := if_pos h
theorem cc_addTest (d z : Nat) (st bg sk : Nat → Int32) (hz : z ≤ 404) (hz1 : 1 ≤ z) (hd : 1 ≤ d) : Con mX0_addTest d [.ref 0] (gW (nI z) st bg sk) (fun r W' => W' = gW (nI (adZ z)) (adS st z (stX (nI 6) (nI 0))) bg sk ∧ r = some (.int (nI (adZ z - 1)))) := by
  have hz9 : 1 ≤ adZ z ∧ adZ z ≤ 404 := by unfold adZ; split <;> omega
  refine Con.of (by decide) (Nat.le_of_ble_eq_true rfl) ?_
  refine XG.blk tX0_addTest_ok 0 3 (pc' := 4) (pl' := [some (.ref 0)]) (st' := [(.int (nI 0)), (.int (nI 6)), (.ref 0)]) (W1 := (gW (nI z) st bg sk)) (bs := []) rfl rfl rfl ?_
  refine XG.callV0 eX0_addTest_4 kl_X0_31 (cc_lawAdd (d - 1) z st bg sk hz (nI 6) (nI 0)) (px_fitS (by omega)) rfl rfl rfl (Nat.le_of_ble_eq_true rfl) (fun r9 W9 hp9 hl9 => ?_)
  obtain ⟨rfl, rfl⟩ := hp9
  show XG _ _ _ _ _ _ [] (gW (nI (adZ z)) (adS st z (stX (nI 6) (nI 0))) bg sk)
  have q1 : (nI (adZ z)) = (nI (adZ z)) := rfl
  have q2 : ((nI (adZ z)) - (nI 1)) = (nI ((adZ z) - 1)) := px_esub rfl rfl (by omega)
  refine XG.blk tX0_addTest_ok 4 4 (pc' := 13) (pl' := [some (.ref 0)]) (st' := [(.int ((nI (adZ z)) - (nI 1)))]) (W1 := (gW (nI (adZ z)) (adS st z (stX (nI 6) (nI 0))) bg sk)) (bs := []) rfl rfl rfl ?_
  simp only [q1, q2]
  refine XS.iret eX0_addTest_13 rfl rfl ?_
  exact ⟨rfl, rfl⟩
theorem cc_aim (d z : Nat) (st bg sk : Nat → Int32) (hz : z ≤ 404) (k : Nat) (hk : k < 404) : Con mX0_aim d [.ref 0, .int (nI k)] (gW (nI z) st bg sk) (fun r W' => W' = gW (nI z) (upd st k (stX (nI 6) (nI z))) bg sk ∧ r = none) := by
  refine Con.of (by decide) (Nat.le_of_ble_eq_true rfl) ?_
  have q1 : (nI k).toNatClampNeg = k := nI_clamp (by omega)
  refine XG.blk tX0_aim_ok 0 10 (pc' := 15) (pl' := [some (.ref 0), some (.int (nI k))]) (st' := []) (W1 := (gW (nI z) (upd st (nI k).toNatClampNeg (((nI z) <<< ((nI 3) &&& 31)) ||| (nI 6))) bg sk)) (bs := [px_vb (nI k) 404]) rfl rfl (by (try simp only [q1]); exact (px_all (px_vbN (by omega) (by decide)) rfl)) ?_
  simp only [q1]
  refine XS.vret eX0_aim_15 rfl ?_
  exact ⟨rfl, rfl⟩
theorem cc_lawClear (d : Nat) (z0 : Int32) (st bg sk : Nat → Int32) (hd : 1 ≤ d) : Con mX0_clear d [.ref 0] (gW z0 st bg sk) (fun r W' => ∃ st' bg', W' = gW (nI 4) st' bg' sk ∧ (st' 0 = nI 1 ∧ st' 1 = nI 7 ∧ st' 2 = nI 0 ∧ st' 3 = nI 7) ∧ (bg' 0 = nI 0 ∧ bg' 1 = nI 2 ∧ bg' 2 = nI 2) ∧ r = none) := by
  refine Con.of (by decide) (Nat.le_of_ble_eq_true rfl) ?_
  refine XG.blk tX0_clear_ok 0 5 (pc' := 7) (pl' := [some (.ref 0)]) (st' := [(.int (nI 0)), (.ref 0)]) (W1 := (gW (nI 0) st bg sk)) (bs := []) rfl rfl rfl ?_
  refine XG.callV0 eX0_clear_7 kl_X0_27 (cc_begin (d - 1) 0 st bg sk (Nat.zero_le _) 0 (by decide)) (px_fitS (by omega)) rfl rfl rfl (Nat.le_of_ble_eq_true rfl) (fun r9 W9 hp9 hl9 => ?_)
  obtain ⟨rfl, rfl⟩ := hp9
  show XG _ _ _ _ _ _ [] (gW (nI 0) st (upd bg 0 (nI 0)) sk)
  refine XG.blk tX0_clear_ok 6 3 (pc' := 13) (pl' := [some (.ref 0)]) (st' := [(.int (nI 0)), (.int (nI 1)), (.ref 0)]) (W1 := (gW (nI 0) st (upd bg 0 (nI 0)) sk)) (bs := []) rfl rfl rfl ?_
  refine XG.callV0 eX0_clear_13 kl_X0_31 (cc_lawAdd (d - 1) 0 st (upd bg 0 (nI 0)) sk (Nat.zero_le _) (nI 1) (nI 0)) (px_fitS (by omega)) rfl rfl rfl (Nat.le_of_ble_eq_true rfl) (fun r9 W9 hp9 hl9 => ?_)
  obtain ⟨rfl, rfl⟩ := hp9
  show XG _ _ _ _ _ _ [] (gW (nI (adZ 0)) (adS st 0 (stX (nI 1) (nI 0))) (upd bg 0 (nI 0)) sk)
  refine XG.blk tX0_clear_ok 10 3 (pc' := 20) (pl' := [some (.ref 0)]) (st' := [(.int (nI 0)), (.int (nI 7)), (.ref 0)]) (W1 := (gW (nI (adZ 0)) (adS st 0 (stX (nI 1) (nI 0))) (upd bg 0 (nI 0)) sk)) (bs := []) rfl rfl rfl ?_
  refine XG.callV0 eX0_clear_20 kl_X0_31 (cc_lawAdd (d - 1) (adZ 0) (adS st 0 (stX (nI 1) (nI 0))) (upd bg 0 (nI 0)) sk (adZ_le (Nat.zero_le _)) (nI 7) (nI 0)) (px_fitS (by omega)) rfl rfl rfl (Nat.le_of_ble_eq_true rfl) (fun r9 W9 hp9 hl9 => ?_)
  obtain ⟨rfl, rfl⟩ := hp9
  show XG _ _ _ _ _ _ [] (gW (nI (adZ (adZ 0))) (adS (adS st 0 (stX (nI 1) (nI 0))) (adZ 0) (stX (nI 7) (nI 0))) (upd bg 0 (nI 0)) sk)
  refine XG.blk tX0_clear_ok 14 2 (pc' := 25) (pl' := [some (.ref 0)]) (st' := [(.int (nI 1)), (.ref 0)]) (W1 := (gW (nI (adZ (adZ 0))) (adS (adS st 0 (stX (nI 1) (nI 0))) (adZ 0) (stX (nI 7) (nI 0))) (upd bg 0 (nI 0)) sk)) (bs := []) rfl rfl rfl ?_
  refine XG.callV0 eX0_clear_25 kl_X0_27 (cc_begin (d - 1) (adZ (adZ 0)) (adS (adS st 0 (stX (nI 1) (nI 0))) (adZ 0) (stX (nI 7) (nI 0))) (upd bg 0 (nI 0)) sk (adZ_le (adZ_le (Nat.zero_le _))) 1 (by decide)) (px_fitS (by omega)) rfl rfl rfl (Nat.le_of_ble_eq_true rfl) (fun r9 W9 hp9 hl9 => ?_)
  obtain ⟨rfl, rfl⟩ := hp9
  show XG _ _ _ _ _ _ [] (gW (nI (adZ (adZ 0))) (adS (adS st 0 (stX (nI 1) (nI 0))) (adZ 0) (stX (nI 7) (nI 0))) (upd (upd bg 0 (nI 0)) 1 (nI (adZ (adZ 0)))) sk)
  refine XG.blk tX0_clear_ok 17 2 (pc' := 30) (pl' := [some (.ref 0)]) (st' := [(.int (nI 2)), (.ref 0)]) (W1 := (gW (nI (adZ (adZ 0))) (adS (adS st 0 (stX (nI 1) (nI 0))) (adZ 0) (stX (nI 7) (nI 0))) (upd (upd bg 0 (nI 0)) 1 (nI (adZ (adZ 0)))) sk)) (bs := []) rfl rfl rfl ?_
  refine XG.callV0 eX0_clear_30 kl_X0_27 (cc_begin (d - 1) (adZ (adZ 0)) (adS (adS st 0 (stX (nI 1) (nI 0))) (adZ 0) (stX (nI 7) (nI 0))) (upd (upd bg 0 (nI 0)) 1 (nI (adZ (adZ 0)))) sk (adZ_le (adZ_le (Nat.zero_le _))) 2 (by decide)) (px_fitS (by omega)) rfl rfl rfl (Nat.le_of_ble_eq_true rfl) (fun r9 W9 hp9 hl9 => ?_)
  obtain ⟨rfl, rfl⟩ := hp9
  show XG _ _ _ _ _ _ [] (gW (nI (adZ (adZ 0))) (adS (adS st 0 (stX (nI 1) (nI 0))) (adZ 0) (stX (nI 7) (nI 0))) (upd (upd (upd bg 0 (nI 0)) 1 (nI (adZ (adZ 0)))) 2 (nI (adZ (adZ 0)))) sk)
  refine XG.blk tX0_clear_ok 20 3 (pc' := 36) (pl' := [some (.ref 0)]) (st' := [(.int (nI 0)), (.int (nI 0)), (.ref 0)]) (W1 := (gW (nI (adZ (adZ 0))) (adS (adS st 0 (stX (nI 1) (nI 0))) (adZ 0) (stX (nI 7) (nI 0))) (upd (upd (upd bg 0 (nI 0)) 1 (nI (adZ (adZ 0)))) 2 (nI (adZ (adZ 0)))) sk)) (bs := []) rfl rfl rfl ?_
  refine XG.callV0 eX0_clear_36 kl_X0_31 (cc_lawAdd (d - 1) (adZ (adZ 0)) (adS (adS st 0 (stX (nI 1) (nI 0))) (adZ 0) (stX (nI 7) (nI 0))) (upd (upd (upd bg 0 (nI 0)) 1 (nI (adZ (adZ 0)))) 2 (nI (adZ (adZ 0)))) sk (adZ_le (adZ_le (Nat.zero_le _))) (nI 0) (nI 0)) (px_fitS (by omega)) rfl rfl rfl (Nat.le_of_ble_eq_true rfl) (fun r9 W9 hp9 hl9 => ?_)
  obtain ⟨rfl, rfl⟩ := hp9
  show XG _ _ _ _ _ _ [] (gW (nI (adZ (adZ (adZ 0)))) (adS (adS (adS st 0 (stX (nI 1) (nI 0))) (adZ 0) (stX (nI 7) (nI 0))) (adZ (adZ 0)) (stX (nI 0) (nI 0))) (upd (upd (upd bg 0 (nI 0)) 1 (nI (adZ (adZ 0)))) 2 (nI (adZ (adZ 0)))) sk)
  refine XG.blk tX0_clear_ok 24 3 (pc' := 43) (pl' := [some (.ref 0)]) (st' := [(.int (nI 0)), (.int (nI 7)), (.ref 0)]) (W1 := (gW (nI (adZ (adZ (adZ 0)))) (adS (adS (adS st 0 (stX (nI 1) (nI 0))) (adZ 0) (stX (nI 7) (nI 0))) (adZ (adZ 0)) (stX (nI 0) (nI 0))) (upd (upd (upd bg 0 (nI 0)) 1 (nI (adZ (adZ 0)))) 2 (nI (adZ (adZ 0)))) sk)) (bs := []) rfl rfl rfl ?_
  refine XG.callV0 eX0_clear_43 kl_X0_31 (cc_lawAdd (d - 1) (adZ (adZ (adZ 0))) (adS (adS (adS st 0 (stX (nI 1) (nI 0))) (adZ 0) (stX (nI 7) (nI 0))) (adZ (adZ 0)) (stX (nI 0) (nI 0))) (upd (upd (upd bg 0 (nI 0)) 1 (nI (adZ (adZ 0)))) 2 (nI (adZ (adZ 0)))) sk (adZ_le (adZ_le (adZ_le (Nat.zero_le _)))) (nI 7) (nI 0)) (px_fitS (by omega)) rfl rfl rfl (Nat.le_of_ble_eq_true rfl) (fun r9 W9 hp9 hl9 => ?_)
  obtain ⟨rfl, rfl⟩ := hp9
  show XG _ _ _ _ _ _ [] (gW (nI (adZ (adZ (adZ (adZ 0))))) (adS (adS (adS (adS st 0 (stX (nI 1) (nI 0))) (adZ 0) (stX (nI 7) (nI 0))) (adZ (adZ 0)) (stX (nI 0) (nI 0))) (adZ (adZ (adZ 0))) (stX (nI 7) (nI 0))) (upd (upd (upd bg 0 (nI 0)) 1 (nI (adZ (adZ 0)))) 2 (nI (adZ (adZ 0)))) sk)
  refine XS.vret eX0_clear_46 rfl ?_
  exact ⟨_, _, rfl, ⟨by rfl, by rfl, by rfl, by rfl⟩, ⟨by rfl, by rfl, by rfl⟩, rfl⟩
theorem pt_tg (tv : Nat → Int32) (ta : Nat → Nat → Int32) (tb : Nat → Nat → Int64) (z : Int32) (st bg sk : Nat → Int32) : px_pt (px_f [11, 12, 13, 14]) [11, 12, 13, 14] (gW z st bg sk) (tW tv ta tb) = tW (va_up tv 20 z) (va_up (va_up (va_up ta 20 st) 21 bg) 22 sk) tb := by
  unfold tW gW
  simp only [px_pt, List.set_cons_succ, List.set_cons_zero]
  rfl
set_option maxHeartbeats 1000000 in
theorem cc_textClear (d : Nat) (tv : Nat → Int32) (ta : Nat → Nat → Int32) (tb : Nat → Nat → Int64) (hd : 2 ≤ d) : Con mX7_clear d [.ref 0] (tW tv ta tb) (fun r W' => ∃ tv' st' bg', W' = tW tv' (va_up (va_up ta 20 st') 21 bg') tb ∧ (tv' 0 = nI 3 ∧ tv' 1 = nI 0 ∧ tv' 2 = nI 0 ∧ tv' 3 = nI 0 ∧ tv' 4 = nI 12 ∧ tv' 5 = nI 5 ∧ tv' 6 = nI 0 ∧ tv' 20 = nI 4) ∧ (st' 0 = nI 1 ∧ st' 1 = nI 7 ∧ st' 2 = nI 0 ∧ st' 3 = nI 7) ∧ (bg' 0 = nI 0 ∧ bg' 1 = nI 2 ∧ bg' 2 = nI 2) ∧ r = none) := by
  refine Con.of (by decide) (Nat.le_of_ble_eq_true rfl) ?_
  refine XG.blk tX7_clear_ok 0 23 (pc' := 40) (pl' := [some (.ref 0)]) (st' := [(.ref 11)]) (W1 := (tW (va_up (va_up (va_up (va_up (va_up (va_up (va_up tv 0 (nI 3)) 1 (nI 0)) 2 (nI 0)) 3 (nI 0)) 4 (nI 12)) 5 (nI 5)) 6 (nI 0)) ta tb)) (bs := []) rfl rfl rfl ?_
  refine XG.callV (ro := [11, 12, 13, 14]) (W1 := (gW (tv 20) (ta 20) (ta 21) (ta 22))) eX7_clear_40 kl_X7_75 (cc_lawClear (d - 1) (tv 20) (ta 20) (ta 21) (ta 22) (by omega)) (px_fitS (by omega)) rfl ⟨rfl, by decide, by decide⟩ rfl rfl (Nat.le_of_ble_eq_true rfl) (fun r9 W9 hp9 hl9 => ?_)
  obtain ⟨st9, bg9, rfl, hst, hbg, rfl⟩ := hp9
  rw [pt_tg]
  show XG _ _ _ _ _ _ [] (tW (va_up (va_up (va_up (va_up (va_up (va_up (va_up (va_up tv 0 (nI 3)) 1 (nI 0)) 2 (nI 0)) 3 (nI 0)) 4 (nI 12)) 5 (nI 5)) 6 (nI 0)) 20 (nI 4)) (va_up (va_up ta 20 st9) 21 bg9) tb)
  refine XS.vret eX7_clear_43 rfl ?_
  exact ⟨_, _, _, rfl, ⟨rfl, rfl, rfl, rfl, rfl, rfl, rfl, rfl⟩, hst, hbg, rfl⟩
