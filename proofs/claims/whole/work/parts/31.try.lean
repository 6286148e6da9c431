theorem con_in (d : Nat) (x lo hi : Int32) : Con mX9_in d [.int x, .int lo, .int hi] [] (fun r _ => r = some (.int (if lo ≤ x ∧ x ≤ hi then 1 else 0))) := by
  refine Con.of (by decide) (Nat.le_of_ble_eq_true rfl) ?_
  refine XG.blk tX9_in_ok 0 2 (pc' := 2) rfl rfl rfl ?_
  refine XG.br eX9_in_2 rfl (tgt := 14) (by decide) (fun h0 => ?_) (fun h0 => ?_)
  · refine XG.blk tX9_in_ok 8 1 (pc' := 15) rfl rfl rfl ?_
    refine XS.iret eX9_in_15 rfl rfl ?_
    rw [if_neg (fun hc => absurd h0 (Int32.not_lt.mpr hc.1))]; rfl
  · refine XG.blk tX9_in_ok 3 2 (pc' := 7) rfl rfl rfl ?_
    refine XG.br eX9_in_7 rfl (tgt := 14) (by decide) (fun h1 => ?_) (fun h1 => ?_)
    · refine XG.blk tX9_in_ok 8 1 (pc' := 15) rfl rfl rfl ?_
      refine XS.iret eX9_in_15 rfl rfl ?_
      rw [if_neg (fun hc => absurd h1 (Int32.not_lt.mpr hc.2))]; rfl
    · refine XG.blk tX9_in_ok 6 1 (pc' := 11) rfl rfl rfl ?_
      refine XG.goto eX9_in_11 (tgt := 15) (by decide) ?_
      refine XS.iret eX9_in_15 rfl rfl ?_
      rw [if_pos ⟨Int32.not_lt.mp h0, Int32.not_lt.mp h1⟩]; rfl
set_option maxHeartbeats 1000000 in
theorem con_loadOn (d : Nat) (v : Nat → Int32) (a : Nat → Nat → Int32) (b : Nat → Nat → Int64) (p : Int32) (lv n : Nat) (hlv : v 18 = nI lv) (hlv2 : lv < 2) (hn : a 31 lv = nI n) (hn2 : n ≤ 5) :
    Con mX9_loadOn d [.ref 0, .int p] (mW v a b) (fun r W' => W' = mW v a b ∧ r = some (.int (sumTo (fun c => if a 55 (18 + c) = p then a 32 (5 * lv + c) else 0) n))) := by
  refine Con.of (by decide) (Nat.le_of_ble_eq_true rfl) ?_
  refine XG.blk tX9_loadOn_ok 0 4 (pc' := 4) rfl rfl rfl ?_
  refine px_for n (fun i => XG mX9_loadOn _ 0 0 4 [some (.ref 0), some (.int p), some (.int (sumTo (fun c => if a 55 (18 + c) = p then a 32 (5 * lv + c) else 0) i)), some (.int (nI i))] [] (mW v a b)) ?_ ?_ 0 (Nat.zero_le n)
  · refine XG.blk tX9_loadOn_ok 4 6 (pc' := 14) rfl rfl (by show (px_vb (v 18) 2 && true) = true; rw [hlv, px_vbN hlv2 (by decide)]; rfl) ?_
    refine XG.br eX9_loadOn_14 rfl (tgt := 52) (by decide) (fun h1 => ?_) (fun h1 => ?_)
    · refine XG.blk tX9_loadOn_ok 33 1 (pc' := 53) rfl rfl rfl ?_
      refine XS.iret eX9_loadOn_53 rfl rfl ?_
      exact ⟨rfl, rfl⟩
    · exact absurd (by rw [hlv, nI_clamp (by omega), hn]; exact Int32.le_refl _) h1
  · intro i hi ih
    refine XG.blk tX9_loadOn_ok 4 6 (pc' := 14) rfl rfl (by show (px_vb (v 18) 2 && true) = true; rw [hlv, px_vbN hlv2 (by decide)]; rfl) ?_
    refine XG.br eX9_loadOn_14 rfl (tgt := 52) (by decide) (fun h1 => ?_) (fun h1 => ?_)
    · exact absurd h1 (by rw [hlv, nI_clamp (by omega), hn]; exact nI_ge hi (by omega))
    · have e1 : (Int8.ofInt 18).toInt32 + nI i = nI (18 + i) := nI_add 18 i
      have e2 : Int32.ofInt 5 * v 18 + nI i = nI (5 * lv + i) := by rw [hlv]; exact (congrArg (· + nI i) (pk_mul 5 lv)).trans (nI_add _ _)
      have e3 : nI i + Int32.ofInt 1 = nI (i + 1) := nI_add i 1
      refine XG.blk tX9_loadOn_ok 11 7 (pc' := 27) rfl rfl (by show (px_vb ((Int8.ofInt 18).toInt32 + nI i) 32 && true) = true; rw [e1, px_vbN (by omega) (by decide)]; rfl) ?_
      refine XG.br eX9_loadOn_27 rfl (tgt := 46) (by decide) (fun h3 => ?_) (fun h3 => ?_)
      · rw [e1, nI_clamp (by omega)] at h3
        refine XG.blk tX9_loadOn_ok 31 1 (pc' := 49) rfl rfl rfl ?_
        refine XG.goto eX9_loadOn_49 (tgt := 4) (by decide) ?_
        have e4 : sumTo (fun c => if a 55 (18 + c) = p then a 32 (5 * lv + c) else 0) (i + 1) = sumTo (fun c => if a 55 (18 + c) = p then a 32 (5 * lv + c) else 0) i := by
          show _ + (if a 55 (18 + i) = p then _ else _) = _
          rw [if_neg h3, Int32.add_zero]
        rw [e4, ← e3] at ih
        exact ih
      · rw [e1, nI_clamp (by omega)] at h3
        refine XG.blk tX9_loadOn_ok 19 13 (pc' := 49) rfl rfl (by show (px_vb (Int32.ofInt 5 * v 18 + nI i) 10 && true) = true; rw [e2, px_vbN (by omega) (by decide)]; rfl) ?_
        refine XG.goto eX9_loadOn_49 (tgt := 4) (by decide) ?_
        have e4 : sumTo (fun c => if a 55 (18 + c) = p then a 32 (5 * lv + c) else 0) (i + 1) = sumTo (fun c => if a 55 (18 + c) = p then a 32 (5 * lv + c) else 0) i + a 32 (Int32.ofInt 5 * v 18 + nI i).toNatClampNeg := by
          show _ + (if a 55 (18 + i) = p then _ else _) = _
          rw [if_pos (Decidable.not_not.mp h3), e2, nI_clamp (by omega)]
        rw [e4, ← e3] at ih
        exact ih
