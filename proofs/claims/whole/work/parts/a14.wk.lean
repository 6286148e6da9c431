/-! THE CLASS: weakest -/
set_option maxHeartbeats 1000000 in
theorem cc_weighRow (d : Nat) (pv : Nat → Int32) (pa : Nat → Nat → Int32) (gv : Nat → Int32) (ga : Nat → Nat → Int32) (ov : Nat → Int32) (oa : Nat → Nat → Int32) (se : Nat → Int32) (tv : Nat → Int32) (ta : Nat → Nat → Int32) (tb : Nat → Nat → Int64) (nv : Nat → Int32) (na : Nat → Nat → Int32) (S : SD) (lv : Nat) (v : Nat → Int32) (a : Nat → Nat → Int32) (hX : CX S lv (aQ a) tv ta) (hN : CNt S (a 54) nv na) (y : Nat) (hS : ∀ p, p < S.1 23 → pa 11 p = nI (wst S (a 54) y p)) (hB : brn S lv a (pa 12)) (hd : 1 ≤ d) : Con mX2_weighRow d [.ref 0] (pW pv pa gv ga ov oa se tv ta tb nv na) (fun r W' => ∃ pv' pa', W' = pW pv' pa' gv ga ov oa se tv ta tb nv na ∧ (pv' 0 = if pv 0 < (wkV a lv (S.1 23) (S.1 24) (S.1 31) y) then (wkV a lv (S.1 23) (S.1 24) (S.1 31) y) else pv 0) ∧ (∀ b, b < 6 → pa' 4 b = if pv 0 < (wkV a lv (S.1 23) (S.1 24) (S.1 31) y) then pa 10 b else pa 4 b) ∧ (pa' 10 = pa 10 ∧ pa' 11 = pa 11 ∧ pa' 12 = pa 12) ∧ r = none) := by
  obtain ⟨hcr, hcr2⟩ := hX.cr
  obtain ⟨hsl, hsl2⟩ := hX.sl
  obtain ⟨hsp, hsp1, hsp2⟩ := hX.sp
  have hT := hX.1
  have hA : (aslN S (a 54)) < 64 := mkN_64 hsl2
  have hw0 : wst S (a 54) y 0 < 64 := wst_64 hsl2
  have hV : (wkV a lv (S.1 23) (S.1 24) (S.1 31) y) = lwV S lv (aQ a) (a 54) y (S.1 23 - 1) := lR_ly hT hX.2.1 hX.2.2.1 hX.2.2.2.1 _ _
  have hb0 : pa 12 (wst S (a 54) y 0) = bV S lv (aQ a) (a 54) (nI 0) (wst S (a 54) y 0) := by
    have h := hB 0 (by omega) _ (wst_sub (z := y) (p := 0)); rw [Nat.zero_mul, Nat.zero_add] at h; exact h
  refine Con.of (by decide) (Nat.le_of_ble_eq_true rfl) ?_
  have q1 : (nI 0).toNatClampNeg = 0 := nI_clamp (by omega)
  have q2 : ((pa 11) 0) = (nI (wst S (a 54) y 0)) := hS 0 (by omega)
  have q3 : (nI (wst S (a 54) y 0)).toNatClampNeg = (wst S (a 54) y 0) := nI_clamp (by omega)
  have q4 : ((pa 12) (wst S (a 54) y 0)) = (bV S lv (aQ a) (a 54) (nI 0) (wst S (a 54) y 0)) := hb0
  refine XG.blk tX2_weighRow_ok 0 10 (pc' := 14) (pl' := [some (.ref 0), some (.int ((pa 12) ((pa 11) (nI 0).toNatClampNeg).toNatClampNeg)), some (.int (nI 1))]) (st' := []) (W1 := (pW pv pa gv ga ov oa se tv ta tb nv na)) (bs := [px_vb (nI 0) 5, px_vb ((pa 11) (nI 0).toNatClampNeg) 320]) rfl rfl (by (try simp only [q1, q2, q3, q4]); exact (px_all (px_vbN (by omega) (by decide)) (px_all (px_vbN (by omega) (by decide)) rfl))) ?_
  simp only [q1, q2, q3, q4]
  refine px_for (S.1 23 - 1) (fun i => XG mX2_weighRow _ 0 0 14 [some (.ref 0), some (.int (lwV S lv (aQ a) (a 54) y i)), some (.int (nI (1 + i)))] [] (pW pv pa gv ga ov oa se tv ta tb nv na)) ?_ ?_ 0 (Nat.zero_le _)
  · skip
    have q5 : (tv 0) = (nI (S.1 23)) := hsp
    refine XG.blk tX2_weighRow_ok 10 5 (pc' := 25) (pl' := [some (.ref 0), some (.int (lwV S lv (aQ a) (a 54) y (S.1 23 - 1))), some (.int (nI (1 + (S.1 23 - 1))))]) (st' := [(.int (tv 0)), (.int (nI (1 + (S.1 23 - 1))))]) (W1 := (pW pv pa gv ga ov oa se tv ta tb nv na)) (bs := []) rfl rfl rfl ?_
    simp only [q5]
    refine XG.br eX2_weighRow_25 (P := (nI (S.1 23)) ≤ (nI (1 + (S.1 23 - 1)))) (r := []) rfl (tgt := 55) (by decide) (fun h25 => ?_) (fun h25 => ?_)
    · skip
      have g25 : (S.1 23) ≤ (1 + (S.1 23 - 1)) := (nI_leI (a := (S.1 23)) (b := (1 + (S.1 23 - 1))) (by omega) (by omega)).mp h25
      refine XG.blk tX2_weighRow_ok 32 3 (pc' := 60) (pl' := [some (.ref 0), some (.int (lwV S lv (aQ a) (a 54) y (S.1 23 - 1))), some (.int (nI (1 + (S.1 23 - 1))))]) (st' := [(.int (pv 0)), (.int (lwV S lv (aQ a) (a 54) y (S.1 23 - 1)))]) (W1 := (pW pv pa gv ga ov oa se tv ta tb nv na)) (bs := []) rfl rfl rfl ?_
      refine XG.br eX2_weighRow_60 (P := (lwV S lv (aQ a) (a 54) y (S.1 23 - 1)) ≤ (pv 0)) (r := []) rfl (tgt := 83) (by decide) (fun h60 => ?_) (fun h60 => ?_)
      · skip
        refine XS.vret eX2_weighRow_83 rfl ?_
        rw [hV]
        refine ⟨_, _, rfl, (if_neg (Int32.not_lt.mpr h60)).symm, fun b hb => (if_neg (Int32.not_lt.mpr h60)).symm, ⟨rfl, rfl, rfl⟩, rfl⟩
      · skip
        refine XG.blk tX2_weighRow_ok 36 10 (pc' := 80) (pl' := [some (.ref 0), some (.int (lwV S lv (aQ a) (a 54) y (S.1 23 - 1))), some (.int (nI (1 + (S.1 23 - 1))))]) (st' := [(.int (nI 6)), (.int (nI 0)), (.ref 1), (.int (nI 0)), (.ref 3)]) (W1 := (pW (va_up pv 0 (lwV S lv (aQ a) (a 54) y (S.1 23 - 1))) pa gv ga ov oa se tv ta tb nv na)) (bs := []) rfl rfl rfl ?_
        have q6 : (nI 0).toNatClampNeg = 0 := nI_clamp (by omega)
        have q7 : (nI 0).toNatClampNeg = 0 := nI_clamp (by omega)
        have q8 : (nI 6).toNatClampNeg = 6 := nI_clamp (by omega)
        refine XG.copyi (q0 := 3) (q1 := 1) (n0 := 6) (n1 := 6) (f := (pa 10)) (g := (pa 4)) eX2_weighRow_80 kc_X2_91 rfl rfl (nI_nn (by omega)) (nI_nn (by omega)) (nI_nn (by omega)) (by rw [q6, q8]; omega) (by rw [q7, q8]; omega) (show 1 ≤ d by omega) (show 60 ≤ 60 * d by omega) (Nat.le_of_ble_eq_true rfl) ?_
        rw [q6, q8]
        show XG _ _ _ _ _ _ [] (pW (va_up pv 0 (lwV S lv (aQ a) (a 54) y (S.1 23 - 1))) (va_up pa 4 (va_cpy (pa 10) (pa 4) 0 0 6)) gv ga ov oa se tv ta tb nv na)
        refine XS.vret eX2_weighRow_83 rfl ?_
        rw [hV]
        refine ⟨_, _, rfl, (if_pos (Int32.not_le.mp h60)).symm, fun b hb => ?_, ⟨rfl, rfl, rfl⟩, rfl⟩
        rw [if_pos (Int32.not_le.mp h60)]; exact sb_cpy0 hb
    · exfalso
      have g25 : ¬ (S.1 23) ≤ (1 + (S.1 23 - 1)) := (fun z => h25 ((nI_leI (a := (S.1 23)) (b := (1 + (S.1 23 - 1))) (by omega) (by omega)).mpr z))
      omega
  · intro i hi ihi
    have hw1 : (wst S (a 54) y (1 + i)) < 64 := wst_64 hsl2
    have hq1 : pa 11 (1 + i) = nI (wst S (a 54) y (1 + i)) := hS (1 + i) (by omega)
    have hb1 : pa 12 ((1 + i) * 64 + (wst S (a 54) y (1 + i))) = (bV S lv (aQ a) (a 54) (nI (1 + i)) (wst S (a 54) y (1 + i))) := hB (1 + i) (by omega) _ (wst_sub (z := y) (p := 1 + i))
    have q9 : (tv 0) = (nI (S.1 23)) := hsp
    refine XG.blk tX2_weighRow_ok 10 5 (pc' := 25) (pl' := [some (.ref 0), some (.int (lwV S lv (aQ a) (a 54) y i)), some (.int (nI (1 + i)))]) (st' := [(.int (tv 0)), (.int (nI (1 + i)))]) (W1 := (pW pv pa gv ga ov oa se tv ta tb nv na)) (bs := []) rfl rfl rfl ?_
    simp only [q9]
    refine XG.br eX2_weighRow_25 (P := (nI (S.1 23)) ≤ (nI (1 + i))) (r := []) rfl (tgt := 55) (by decide) (fun h25 => ?_) (fun h25 => ?_)
    · exfalso
      have g25 : (S.1 23) ≤ (1 + i) := (nI_leI (a := (S.1 23)) (b := (1 + i)) (by omega) (by omega)).mp h25
      omega
    · skip
      have g25 : ¬ (S.1 23) ≤ (1 + i) := (fun z => h25 ((nI_leI (a := (S.1 23)) (b := (1 + i)) (by omega) (by omega)).mpr z))
      have q10 : ((nI (1 + i)) * (nI 64)) = (nI ((1 + i) * 64)) := px_emul rfl rfl
      have q11 : (nI (1 + i)).toNatClampNeg = (1 + i) := nI_clamp (by omega)
      have q12 : ((pa 11) (1 + i)) = (nI (wst S (a 54) y (1 + i))) := hq1
      have q13 : ((nI ((1 + i) * 64)) + (nI (wst S (a 54) y (1 + i)))) = (nI (((1 + i) * 64) + (wst S (a 54) y (1 + i)))) := px_eadd rfl rfl
      have q14 : (nI (((1 + i) * 64) + (wst S (a 54) y (1 + i)))).toNatClampNeg = (((1 + i) * 64) + (wst S (a 54) y (1 + i))) := nI_clamp (by omega)
      have q15 : ((pa 12) (((1 + i) * 64) + (wst S (a 54) y (1 + i)))) = (bV S lv (aQ a) (a 54) (nI (1 + i)) (wst S (a 54) y (1 + i))) := hb1
      refine XG.blk tX2_weighRow_ok 16 12 (pc' := 45) (pl' := [some (.ref 0), some (.int (lwV S lv (aQ a) (a 54) y i)), some (.int (nI (1 + i)))]) (st' := [(.int ((pa 12) (((nI (1 + i)) * (nI 64)) + ((pa 11) (nI (1 + i)).toNatClampNeg)).toNatClampNeg)), (.int (lwV S lv (aQ a) (a 54) y i))]) (W1 := (pW pv pa gv ga ov oa se tv ta tb nv na)) (bs := [px_vb (nI (1 + i)) 5, px_vb (((nI (1 + i)) * (nI 64)) + ((pa 11) (nI (1 + i)).toNatClampNeg)) 320]) rfl rfl (by (try simp only [q10, q11, q12, q13, q14, q15]); exact (px_all (px_vbN (by omega) (by decide)) (px_all (px_vbN (by omega) (by decide)) rfl))) ?_
      simp only [q10, q11, q12, q13, q14, q15]
      refine XG.callSp (r := some (.int (mnF (lwV S lv (aQ a) (a 54) y i) (bV S lv (aQ a) (a 54) (nI (1 + i)) (wst S (a 54) y (1 + i)))))) eX2_weighRow_45 kl_X2_85 (con_min (d - 1) (lwV S lv (aQ a) (a 54) y i) (bV S lv (aQ a) (a 54) (nI (1 + i)) (wst S (a 54) y (1 + i)))) (px_fitS (by omega)) rfl rfl rfl rfl (Nat.le_of_ble_eq_true rfl) ?_
      have q16 : ((nI (1 + i)) + (nI 1)) = (nI ((1 + i) + 1)) := px_eadd rfl rfl
      refine XG.blk tX2_weighRow_ok 29 2 (pc' := 52) (pl' := [some (.ref 0), some (.int (mnF (lwV S lv (aQ a) (a 54) y i) (bV S lv (aQ a) (a 54) (nI (1 + i)) (wst S (a 54) y (1 + i))))), some (.int ((nI (1 + i)) + (nI 1)))]) (st' := []) (W1 := (pW pv pa gv ga ov oa se tv ta tb nv na)) (bs := []) rfl rfl rfl ?_
      simp only [q16]
      refine XG.goto eX2_weighRow_52 (tgt := 14) (by decide) ?_
      rw [Nat.add_assoc, show mnF (lwV S lv (aQ a) (a 54) y i) (bV S lv (aQ a) (a 54) (nI (1 + i)) (wst S (a 54) y (1 + i))) = (lwV S lv (aQ a) (a 54) y (i + 1)) from ?_]
      · exact ihi
      · show (if _ < _ then _ else _) = (if _ ≤ _ then _ else _)
        by_cases hle : (lwV S lv (aQ a) (a 54) y i) ≤ (bV S lv (aQ a) (a 54) (nI (1 + i)) (wst S (a 54) y (1 + i)))
        · rw [if_neg (Int32.not_lt.mpr hle)]; exact (if_pos hle).symm
        · rw [if_pos (Int32.not_le.mp hle)]; exact (if_neg hle).symm
theorem wk_step {S : SD} {lv : Nat} {a : Nat → Nat → Int32} {tv : Nat → Int32} {ta : Nat → Nat → Int32} (hX : CX S lv (aQ a) tv ta) {y : Nat} (hy : y < 2 ^ 31) (hok : okW (S.1 24) (S.1 23) y) {x : Int32} {pv pv' : Nat → Int32} {pa pa' : Nat → Nat → Int32} (h : wkS x a lv (S.1 23) (S.1 24) (S.1 31) y pv pa) (hrow : ∀ b, b < S.1 24 → pa 10 b = nI (dig y (S.1 24 - 1 - b))) (h0 : pv' 0 = if pv 0 < wkV a lv (S.1 23) (S.1 24) (S.1 31) y then wkV a lv (S.1 23) (S.1 24) (S.1 31) y else pv 0) (h4 : ∀ b, b < 6 → pa' 4 b = if pv 0 < wkV a lv (S.1 23) (S.1 24) (S.1 31) y then pa 10 b else pa 4 b) : wkS x a lv (S.1 23) (S.1 24) (S.1 31) (y + 1) pv' pa' := by
  obtain ⟨k, hk, he⟩ := wkV_n hX.1 hX.2.1 hX.2.2.1 hX.2.2.2.1 (a 54) y (S.1 23 - 1)
  have hV : wkV a lv (S.1 23) (S.1 24) (S.1 31) y = nI k := (lR_ly hX.1 hX.2.1 hX.2.2.1 hX.2.2.2.1 _ _).trans he
  have hsl2 := hX.sl.2
  have e : itN (wkF a lv (S.1 23) (S.1 24) (S.1 31)) (x, -1) (y + 1) = wkF a lv (S.1 23) (S.1 24) (S.1 31) y (itN (wkF a lv (S.1 23) (S.1 24) (S.1 31)) (x, -1) y) := rfl
  unfold wkS at h ⊢
  rw [e]
  generalize itN (wkF a lv (S.1 23) (S.1 24) (S.1 31)) (x, -1) y = q at h ⊢
  have hc : (q.2 < 0 ∨ q.1 < wkV a lv (S.1 23) (S.1 24) (S.1 31) y) ↔ pv 0 < wkV a lv (S.1 23) (S.1 24) (S.1 31) y := by
    by_cases hq : q.2 < 0
    · rw [h.1 hq, hV]
      refine ⟨fun _ => ?_, fun _ => Or.inl hq⟩
      rw [Int32.lt_iff_toInt_lt, nI_toInt (by omega), show (-1 : Int32).toInt = -1 from rfl]; omega
    · rw [(h.2 hq).1]
      exact ⟨fun z => z.elim (fun n => absurd n hq) id, Or.inr⟩
  unfold wkF
  by_cases hlt : pv 0 < wkV a lv (S.1 23) (S.1 24) (S.1 31) y
  · rw [if_pos ⟨hok, hc.mpr hlt⟩]
    rw [if_pos hlt] at h0
    refine ⟨fun z => absurd z (nI_nn hy), fun _ => ⟨h0, fun b hb => ?_⟩⟩
    rw [h4 b (by omega), if_pos hlt, hrow b hb]
    show _ = nI (dig (nI y).toNatClampNeg _)
    rw [nI_clamp hy]
  · rw [if_neg (fun z => hlt (hc.mp z.2))]
    rw [if_neg hlt] at h0
    refine ⟨fun z => h0.trans (h.1 z), fun z => ⟨h0.trans (h.2 z).1, fun b hb => ?_⟩⟩
    rw [h4 b (by omega), if_neg hlt]
    exact (h.2 z).2 b hb
set_option maxHeartbeats 1000000 in
theorem cc_tryRows0 (d : Nat) (pv : Nat → Int32) (pa : Nat → Nat → Int32) (gv : Nat → Int32) (ga : Nat → Nat → Int32) (ov : Nat → Int32) (oa : Nat → Nat → Int32) (se : Nat → Int32) (tv : Nat → Int32) (ta : Nat → Nat → Int32) (tb : Nat → Nat → Int64) (nv : Nat → Int32) (na : Nat → Nat → Int32) (S : SD) (lv : Nat) (v : Nat → Int32) (a : Nat → Nat → Int32) (hX : CX S lv (aQ a) tv ta) (hN : CNt S (a 54) nv na) (s y : Nat) (hs : s + 0 = S.1 24) (hok : ∀ b, b < s → dig y (s - 1 - b) < S.1 23) (hy : y < 2 ^ 31) (hP : TRp S lv a s y pa) (x : Int32) (hW : wkS x a lv (S.1 23) (S.1 24) (S.1 31) (y * 5 ^ 0) pv pa) (hd : 2 ≤ d) : Con mX2_tryRows d [.ref 0, .ref 36, .int (nI s)] (pW pv pa gv ga ov oa se tv ta tb nv na) (fun r W' => ∃ pv' pa', W' = pW pv' pa' gv ga ov oa se tv ta tb nv na ∧ TRp S lv a s y pa' ∧ wkS x a lv (S.1 23) (S.1 24) (S.1 31) ((y + 1) * 5 ^ 0) pv' pa' ∧ r = none) := by
  obtain ⟨hcr, hcr2⟩ := hX.cr
  obtain ⟨hsl, hsl2⟩ := hX.sl
  obtain ⟨hsp, hsp1, hsp2⟩ := hX.sp
  have hT := hX.1
  have hA : (aslN S (a 54)) < 64 := mkN_64 hsl2
  obtain rfl : s = S.1 24 := hs
  refine Con.of (by decide) (Nat.le_of_ble_eq_true rfl) ?_
  have q1 : (tv 1) = (nI (S.1 24)) := hsl
  refine XG.blk tX2_tryRows_ok 0 5 (pc' := 11) (pl' := [some (.ref 0), some (.ref 36), some (.int (nI (S.1 24))), none, none, none]) (st' := [(.int (tv 1)), (.int (nI (S.1 24)))]) (W1 := (pW pv pa gv ga ov oa se tv ta tb nv na)) (bs := []) rfl rfl rfl ?_
  simp only [q1]
  refine XG.br eX2_tryRows_11 (P := (nI (S.1 24)) ≤ (nI (S.1 24))) (r := []) rfl (tgt := 20) (by decide) (fun h11 => ?_) (fun h11 => ?_)
  · skip
    have g11 : (S.1 24) ≤ (S.1 24) := (nI_leI (a := (S.1 24)) (b := (S.1 24)) (by omega) (by omega)).mp h11
    refine XG.blk tX2_tryRows_ok 9 1 (pc' := 21) (pl' := [some (.ref 0), some (.ref 36), some (.int (nI (S.1 24))), none, none, none]) (st' := [(.ref 0)]) (W1 := (pW pv pa gv ga ov oa se tv ta tb nv na)) (bs := []) rfl rfl rfl ?_
    refine XG.callV0 eX2_tryRows_21 kl_X2_82 (cc_weighRow (d - 1) pv pa gv ga ov oa se tv ta tb nv na S lv v a hX hN y (fun p hp => (hP.1 p hp).trans (congrArg nI pst_all)) hP.2.2 (by omega)) (px_fitS (by omega)) rfl rfl rfl (Nat.le_of_ble_eq_true rfl) (fun r9 W9 hp9 hl9 => ?_)
    obtain ⟨pv1, pa1, rfl, hw1, hw2, ⟨hw3, hw4, hw5⟩, rfl⟩ := hp9
    refine XS.vret eX2_tryRows_24 rfl ?_
    refine ⟨_, _, rfl, ⟨fun p hp => by rw [hw4]; exact hP.1 p hp, fun b hb => by rw [hw3]; exact hP.2.1 b hb, by rw [hw5]; exact hP.2.2⟩, ?_, rfl⟩
    rw [Nat.pow_zero, Nat.mul_one] at hW ⊢
    exact wk_step hX hy hok hW hP.2.1 hw1 hw2
  · exfalso
    have g11 : ¬ (S.1 24) ≤ (S.1 24) := (fun z => h11 ((nI_leI (a := (S.1 24)) (b := (S.1 24)) (by omega) (by omega)).mpr z))
    omega
theorem asl_not {S : SD} {R : Nat → Int32} {s : Nat} (hs : s < S.1 24) (h : aslN S R &&& 2 ^ s = 0) : slpB R (nI (S.1 35)) s = false := by
  rw [asl_2 hs] at h
  by_cases z : slpB R (nI (S.1 35)) s = true
  · rw [if_pos z] at h; exact absurd h (Nat.ne_of_gt (Nat.pow_pos (by decide)))
  · simpa using z
set_option maxHeartbeats 1000000 in
theorem cc_tryRowsS (d : Nat) (pv : Nat → Int32) (pa : Nat → Nat → Int32) (gv : Nat → Int32) (ga : Nat → Nat → Int32) (ov : Nat → Int32) (oa : Nat → Nat → Int32) (se : Nat → Int32) (tv : Nat → Int32) (ta : Nat → Nat → Int32) (tb : Nat → Nat → Int64) (nv : Nat → Int32) (na : Nat → Nat → Int32) (S : SD) (lv : Nat) (v : Nat → Int32) (a : Nat → Nat → Int32) (hX : CX S lv (aQ a) tv ta) (hN : CNt S (a 54) nv na) (k : Nat) (s y : Nat) (hs : s + (k + 1) = S.1 24) (hok_ : ∀ b, b < s → dig y (s - 1 - b) < S.1 23) (hP : TRp S lv a s y pa) (x : Int32) (hW : wkS x a lv (S.1 23) (S.1 24) (S.1 31) (y * 5 ^ (k + 1)) pv pa) (hy5 : (5 * y + 5) * 5 ^ k < 2 ^ 31) (ih : ∀ (pv8 : Nat → Int32) (pa8 : Nat → Nat → Int32) (j : Nat), j < S.1 23 → TRp S lv a (s + 1) (5 * y + j) pa8 → wkS x a lv (S.1 23) (S.1 24) (S.1 31) ((5 * y + j) * 5 ^ k) pv8 pa8 → Con mX2_tryRows (d - 1) [.ref 0, .ref 36, .int (nI (s + 1))] (pW pv8 pa8 gv ga ov oa se tv ta tb nv na) (fun r W' => ∃ pv' pa', W' = pW pv' pa' gv ga ov oa se tv ta tb nv na ∧ TRp S lv a (s + 1) (5 * y + j) pa' ∧ wkS x a lv (S.1 23) (S.1 24) (S.1 31) ((5 * y + j + 1) * 5 ^ k) pv' pa' ∧ r = none)) (hd : 1 ≤ d) : Con mX2_tryRows d [.ref 0, .ref 36, .int (nI s)] (pW pv pa gv ga ov oa se tv ta tb nv na) (fun r W' => ∃ pv' pa', W' = pW pv' pa' gv ga ov oa se tv ta tb nv na ∧ TRp S lv a s y pa' ∧ wkS x a lv (S.1 23) (S.1 24) (S.1 31) ((y + 1) * 5 ^ (k + 1)) pv' pa' ∧ r = none) := by
  obtain ⟨hcr, hcr2⟩ := hX.cr
  obtain ⟨hsl, hsl2⟩ := hX.sl
  obtain ⟨hsp, hsp1, hsp2⟩ := hX.sp
  have hT := hX.1
  have hA : (aslN S (a 54)) < 64 := mkN_64 hsl2
  have hy0 : y * 5 ^ (k + 1) = (5 * y + 0) * 5 ^ k := by rw [Nat.pow_succ', ← Nat.mul_assoc, Nat.mul_comm y 5, Nat.add_zero]
  have hy1 : (y + 1) * 5 ^ (k + 1) = (5 * y + 5) * 5 ^ k := by rw [Nat.pow_succ', ← Nat.mul_assoc, Nat.mul_comm (y + 1) 5, Nat.mul_add]
  have hb64 : ((aslN S (a 54)) &&& 2 ^ s) < 64 := Nat.lt_of_le_of_lt Nat.and_le_left hA
  have hb2 : (nI (aslN S (a 54))) &&& (nI 1 <<< (nI s &&& 31)) = nI ((aslN S (a 54)) &&& 2 ^ s) := by rw [sh_pow (by omega), nx_and]
  rw [hy0] at hW
  refine Con.of (by decide) (Nat.le_of_ble_eq_true rfl) ?_
  have q1 : (tv 1) = (nI (S.1 24)) := hsl
  refine XG.blk tX2_tryRows_ok 0 5 (pc' := 11) (pl' := [some (.ref 0), some (.ref 36), some (.int (nI s)), none, none, none]) (st' := [(.int (tv 1)), (.int (nI s))]) (W1 := (pW pv pa gv ga ov oa se tv ta tb nv na)) (bs := []) rfl rfl rfl ?_
  simp only [q1]
  refine XG.br eX2_tryRows_11 (P := (nI (S.1 24)) ≤ (nI s)) (r := []) rfl (tgt := 20) (by decide) (fun h11 => ?_) (fun h11 => ?_)
  · exfalso
    have g11 : (S.1 24) ≤ s := (nI_leI (a := (S.1 24)) (b := s) (by omega) (by omega)).mp h11
    omega
  · skip
    have g11 : ¬ (S.1 24) ≤ s := (fun z => h11 ((nI_leI (a := (S.1 24)) (b := s) (by omega) (by omega)).mpr z))
    refine XG.blk tX2_tryRows_ok 6 2 (pc' := 17) (pl' := [some (.ref 0), some (.ref 36), some (.int (nI s)), none, none, none]) (st' := [(.int (nI 6)), (.int (nI s))]) (W1 := (pW pv pa gv ga ov oa se tv ta tb nv na)) (bs := []) rfl rfl rfl ?_
    refine XG.br eX2_tryRows_17 (P := (nI s) < (nI 6)) (r := []) rfl (tgt := 25) (by decide) (fun h17 => ?_) (fun h17 => ?_)
    · skip
      have g17 : s < 6 := (nI_ltI (a := s) (b := 6) (by omega) (by omega)).mp h17
      have q2 : (nv 4) = (nI (aslN S (a 54))) := hN.2.2.2.2.1
      have q3 : ((nI (aslN S (a 54))) &&& ((nI 1) <<< ((nI s) &&& 31))) = (nI ((aslN S (a 54)) &&& 2 ^ s)) := hb2
      refine XG.blk tX2_tryRows_ok 12 8 (pc' := 35) (pl' := [some (.ref 0), some (.ref 36), some (.int (nI s)), some (.int ((nv 4) &&& ((nI 1) <<< ((nI s) &&& 31)))), none, none]) (st' := [(.int ((nv 4) &&& ((nI 1) <<< ((nI s) &&& 31))))]) (W1 := (pW pv pa gv ga ov oa se tv ta tb nv na)) (bs := []) rfl rfl rfl ?_
      simp only [q2, q3]
      refine XG.br eX2_tryRows_35 (P := ¬ (nI ((aslN S (a 54)) &&& 2 ^ s)) = 0) (r := []) rfl (tgt := 42) (by decide) (fun h35 => ?_) (fun h35 => ?_)
      · skip
        have g35 : ¬ ((aslN S (a 54)) &&& 2 ^ s) = 0 := (fun z => h35 ((nI_eq (a := ((aslN S (a 54)) &&& 2 ^ s)) (b := 0) (by omega) (by omega)).mpr z))
        have q4 : (tv 0) = (nI (S.1 23)) := hsp
        refine XG.blk tX2_tryRows_ok 23 7 (pc' := 57) (pl' := [some (.ref 0), some (.ref 36), some (.int (nI s)), some (.int (nI ((aslN S (a 54)) &&& 2 ^ s))), some (.int (tv 0)), some (.int (nI 0))]) (st' := []) (W1 := (pW pv pa gv ga ov oa se tv ta tb nv na)) (bs := []) rfl rfl rfl ?_
        simp only [q4]
        refine px_for (S.1 23) (fun j => ∀ (pv9 : Nat → Int32) (pa9 : Nat → Nat → Int32) (_ : TRp S lv a s y pa9) (_ : wkS x a lv (S.1 23) (S.1 24) (S.1 31) ((5 * y + j) * 5 ^ k) pv9 pa9), XG mX2_tryRows _ 0 0 57 [some (.ref 0), some (.ref 36), some (.int (nI s)), some (.int (nI ((aslN S (a 54)) &&& 2 ^ s))), some (.int (nI (S.1 23))), some (.int (nI j))] [] (pW pv9 pa9 gv ga ov oa se tv ta tb nv na)) ?_ ?_ 0 (Nat.zero_le _) _ _ hP hW
        · intro pv9 pa9 hP9 hW9
          refine XG.blk tX2_tryRows_ok 30 2 (pc' := 61) (pl' := [some (.ref 0), some (.ref 36), some (.int (nI s)), some (.int (nI ((aslN S (a 54)) &&& 2 ^ s))), some (.int (nI (S.1 23))), some (.int (nI (S.1 23)))]) (st' := [(.int (nI (S.1 23))), (.int (nI (S.1 23)))]) (W1 := (pW pv9 pa9 gv ga ov oa se tv ta tb nv na)) (bs := []) rfl rfl rfl ?_
          refine XG.br eX2_tryRows_61 (P := (nI (S.1 23)) ≤ (nI (S.1 23))) (r := []) rfl (tgt := 110) (by decide) (fun h61 => ?_) (fun h61 => ?_)
          · skip
            have g61 : (S.1 23) ≤ (S.1 23) := (nI_leI (a := (S.1 23)) (b := (S.1 23)) (by omega) (by omega)).mp h61
            refine XS.vret eX2_tryRows_110 rfl ?_
            refine ⟨_, _, rfl, hP9, ?_, rfl⟩
            rw [hy1]
            unfold wkS
            rw [wk_top hsl2 hX.2.2.1 x hs hy5]
            exact hW9
          · exfalso
            have g61 : ¬ (S.1 23) ≤ (S.1 23) := (fun z => h61 ((nI_leI (a := (S.1 23)) (b := (S.1 23)) (by omega) (by omega)).mpr z))
            omega
        · intro j hj ihj pv9 pa9 hP9 hW9
          have hps : (pst S (a 54) s y j) < 64 := pst_64 hsl2
          have hpk : (pst S (a 54) (s + 1) (5 * y + j) j) < 64 := pst_64 hsl2
          refine XG.blk tX2_tryRows_ok 30 2 (pc' := 61) (pl' := [some (.ref 0), some (.ref 36), some (.int (nI s)), some (.int (nI ((aslN S (a 54)) &&& 2 ^ s))), some (.int (nI (S.1 23))), some (.int (nI j))]) (st' := [(.int (nI (S.1 23))), (.int (nI j))]) (W1 := (pW pv9 pa9 gv ga ov oa se tv ta tb nv na)) (bs := []) rfl rfl rfl ?_
          refine XG.br eX2_tryRows_61 (P := (nI (S.1 23)) ≤ (nI j)) (r := []) rfl (tgt := 110) (by decide) (fun h61 => ?_) (fun h61 => ?_)
          · exfalso
            have g61 : (S.1 23) ≤ j := (nI_leI (a := (S.1 23)) (b := j) (by omega) (by omega)).mp h61
            omega
          · skip
            have g61 : ¬ (S.1 23) ≤ j := (fun z => h61 ((nI_leI (a := (S.1 23)) (b := j) (by omega) (by omega)).mpr z))
            have q5 : (nI s).toNatClampNeg = s := nI_clamp (by omega)
            have q6 : (nI j).toNatClampNeg = j := nI_clamp (by omega)
            have q7 : ((pa9 11) j) = (nI (pst S (a 54) s y j)) := hP9.1 j (by omega)
            have q8 : ((nI (pst S (a 54) s y j)) ||| (nI ((aslN S (a 54)) &&& 2 ^ s))) = (nI ((pst S (a 54) s y j) ||| ((aslN S (a 54)) &&& 2 ^ s))) := nx_or _ _
            have q9 : ((nI s) + (nI 1)) = (nI (s + 1)) := px_eadd rfl rfl
            refine XG.blk tX2_tryRows_ok 33 18 (pc' := 88) (pl' := [some (.ref 0), some (.ref 36), some (.int (nI s)), some (.int (nI ((aslN S (a 54)) &&& 2 ^ s))), some (.int (nI (S.1 23))), some (.int (nI j))]) (st' := [(.int ((nI s) + (nI 1))), (.ref 36), (.ref 0)]) (W1 := (pW pv9 (va_up (va_up pa9 10 (upd (pa9 10) (nI s).toNatClampNeg (nI j))) 11 (upd (pa9 11) (nI j).toNatClampNeg (((pa9 11) (nI j).toNatClampNeg) ||| (nI ((aslN S (a 54)) &&& 2 ^ s))))) gv ga ov oa se tv ta tb nv na)) (bs := [px_vb (nI s) 6, px_vb (nI j) 5, px_vb (nI j) 5]) rfl rfl (by (try simp only [q5, q6, q7, q8, q9]); exact (px_all (px_vbN (by omega) (by decide)) (px_all (px_vbN (by omega) (by decide)) (px_all (px_vbN (by omega) (by decide)) rfl)))) ?_
            simp only [q5, q6, q7, q8, q9]
            refine XG.callV0 eX2_tryRows_88 kl_X2_75 (ih _ _ j (by omega) (hP9.down (by omega) (by omega)) hW9) (px_fitS (by omega)) rfl rfl rfl (Nat.le_of_ble_eq_true rfl) (fun r9 W9 hp9 hl9 => ?_)
            obtain ⟨pv8, pa8, rfl, hP8, hW8, rfl⟩ := hp9
            have q10 : (nI j).toNatClampNeg = j := nI_clamp (by omega)
            have q11 : ((pa8 11) j) = (nI (pst S (a 54) (s + 1) (5 * y + j) j)) := hP8.1 j (by omega)
            have q12 : ((nI (pst S (a 54) (s + 1) (5 * y + j) j)) &&& ((nI ((aslN S (a 54)) &&& 2 ^ s)) ^^^ (-1))) = (nI ((pst S (a 54) (s + 1) (5 * y + j) j) &&& (63 ^^^ ((aslN S (a 54)) &&& 2 ^ s)))) := andn_all ⟨_, hpk⟩ ⟨_, hb64⟩
            have q13 : ((nI j) + (nI 1)) = (nI (j + 1)) := px_eadd rfl rfl
            refine XG.blk tX2_tryRows_ok 52 11 (pc' := 107) (pl' := [some (.ref 0), some (.ref 36), some (.int (nI s)), some (.int (nI ((aslN S (a 54)) &&& 2 ^ s))), some (.int (nI (S.1 23))), some (.int ((nI j) + (nI 1)))]) (st' := []) (W1 := (pW pv8 (va_up pa8 11 (upd (pa8 11) (nI j).toNatClampNeg (((pa8 11) (nI j).toNatClampNeg) &&& ((nI ((aslN S (a 54)) &&& 2 ^ s)) ^^^ (-1))))) gv ga ov oa se tv ta tb nv na)) (bs := [px_vb (nI j) 5, px_vb (nI j) 5]) rfl rfl (by (try simp only [q10, q11, q12, q13]); exact (px_all (px_vbN (by omega) (by decide)) (px_all (px_vbN (by omega) (by decide)) rfl))) ?_
            simp only [q10, q11, q12, q13]
            refine XG.goto eX2_tryRows_107 (tgt := 57) (by decide) ?_
            rw [← Nat.add_assoc] at ihj
            exact ihj _ _ (hP8.back hsl2 (by omega) (by omega)) hW8
      · skip
        have h35 := Decidable.not_not.mp h35
        have g35 : ((aslN S (a 54)) &&& 2 ^ s) = 0 := (nI_eq (a := ((aslN S (a 54)) &&& 2 ^ s)) (b := 0) (by omega) (by omega)).mp h35
        refine XG.blk tX2_tryRows_ok 21 1 (pc' := 39) (pl' := [some (.ref 0), some (.ref 36), some (.int (nI s)), some (.int (nI ((aslN S (a 54)) &&& 2 ^ s))), none, none]) (st' := [(.int (nI 1))]) (W1 := (pW pv pa gv ga ov oa se tv ta tb nv na)) (bs := []) rfl rfl rfl ?_
        refine XG.goto eX2_tryRows_39 (tgt := 52) (by decide) ?_
        refine XG.blk tX2_tryRows_ok 27 3 (pc' := 57) (pl' := [some (.ref 0), some (.ref 36), some (.int (nI s)), some (.int (nI ((aslN S (a 54)) &&& 2 ^ s))), some (.int (nI 1)), some (.int (nI 0))]) (st' := []) (W1 := (pW pv pa gv ga ov oa se tv ta tb nv na)) (bs := []) rfl rfl rfl ?_
        refine px_for 1 (fun j => ∀ (pv9 : Nat → Int32) (pa9 : Nat → Nat → Int32) (_ : TRp S lv a s y pa9) (_ : wkS x a lv (S.1 23) (S.1 24) (S.1 31) ((5 * y + j) * 5 ^ k) pv9 pa9), XG mX2_tryRows _ 0 0 57 [some (.ref 0), some (.ref 36), some (.int (nI s)), some (.int (nI ((aslN S (a 54)) &&& 2 ^ s))), some (.int (nI 1)), some (.int (nI j))] [] (pW pv9 pa9 gv ga ov oa se tv ta tb nv na)) ?_ ?_ 0 (Nat.zero_le _) _ _ hP hW
        · intro pv9 pa9 hP9 hW9
          refine XG.blk tX2_tryRows_ok 30 2 (pc' := 61) (pl' := [some (.ref 0), some (.ref 36), some (.int (nI s)), some (.int (nI ((aslN S (a 54)) &&& 2 ^ s))), some (.int (nI 1)), some (.int (nI 1))]) (st' := [(.int (nI 1)), (.int (nI 1))]) (W1 := (pW pv9 pa9 gv ga ov oa se tv ta tb nv na)) (bs := []) rfl rfl rfl ?_
          refine XG.br eX2_tryRows_61 (P := (nI 1) ≤ (nI 1)) (r := []) rfl (tgt := 110) (by decide) (fun h61 => ?_) (fun h61 => ?_)
          · skip
            have g61 : 1 ≤ 1 := (nI_leI (a := 1) (b := 1) (by omega) (by omega)).mp h61
            refine XS.vret eX2_tryRows_110 rfl ?_
            refine ⟨_, _, rfl, hP9, ?_, rfl⟩
            rw [hy1]
            unfold wkS
            rw [wk_awake hT hX.2.1 hX.2.2.1 hX.2.2.2.1 x hs hy5 (asl_not (by omega) g35)]
            exact hW9
          · exfalso
            have g61 : ¬ 1 ≤ 1 := (fun z => h61 ((nI_leI (a := 1) (b := 1) (by omega) (by omega)).mpr z))
            omega
        · intro j hj ihj pv9 pa9 hP9 hW9
          have hps : (pst S (a 54) s y j) < 64 := pst_64 hsl2
          have hpk : (pst S (a 54) (s + 1) (5 * y + j) j) < 64 := pst_64 hsl2
          refine XG.blk tX2_tryRows_ok 30 2 (pc' := 61) (pl' := [some (.ref 0), some (.ref 36), some (.int (nI s)), some (.int (nI ((aslN S (a 54)) &&& 2 ^ s))), some (.int (nI 1)), some (.int (nI j))]) (st' := [(.int (nI 1)), (.int (nI j))]) (W1 := (pW pv9 pa9 gv ga ov oa se tv ta tb nv na)) (bs := []) rfl rfl rfl ?_
          refine XG.br eX2_tryRows_61 (P := (nI 1) ≤ (nI j)) (r := []) rfl (tgt := 110) (by decide) (fun h61 => ?_) (fun h61 => ?_)
          · exfalso
            have g61 : 1 ≤ j := (nI_leI (a := 1) (b := j) (by omega) (by omega)).mp h61
            omega
          · skip
            have g61 : ¬ 1 ≤ j := (fun z => h61 ((nI_leI (a := 1) (b := j) (by omega) (by omega)).mpr z))
            have q14 : (nI s).toNatClampNeg = s := nI_clamp (by omega)
            have q15 : (nI j).toNatClampNeg = j := nI_clamp (by omega)
            have q16 : ((pa9 11) j) = (nI (pst S (a 54) s y j)) := hP9.1 j (by omega)
            have q17 : ((nI (pst S (a 54) s y j)) ||| (nI ((aslN S (a 54)) &&& 2 ^ s))) = (nI ((pst S (a 54) s y j) ||| ((aslN S (a 54)) &&& 2 ^ s))) := nx_or _ _
            have q18 : ((nI s) + (nI 1)) = (nI (s + 1)) := px_eadd rfl rfl
            refine XG.blk tX2_tryRows_ok 33 18 (pc' := 88) (pl' := [some (.ref 0), some (.ref 36), some (.int (nI s)), some (.int (nI ((aslN S (a 54)) &&& 2 ^ s))), some (.int (nI 1)), some (.int (nI j))]) (st' := [(.int ((nI s) + (nI 1))), (.ref 36), (.ref 0)]) (W1 := (pW pv9 (va_up (va_up pa9 10 (upd (pa9 10) (nI s).toNatClampNeg (nI j))) 11 (upd (pa9 11) (nI j).toNatClampNeg (((pa9 11) (nI j).toNatClampNeg) ||| (nI ((aslN S (a 54)) &&& 2 ^ s))))) gv ga ov oa se tv ta tb nv na)) (bs := [px_vb (nI s) 6, px_vb (nI j) 5, px_vb (nI j) 5]) rfl rfl (by (try simp only [q14, q15, q16, q17, q18]); exact (px_all (px_vbN (by omega) (by decide)) (px_all (px_vbN (by omega) (by decide)) (px_all (px_vbN (by omega) (by decide)) rfl)))) ?_
            simp only [q14, q15, q16, q17, q18]
            refine XG.callV0 eX2_tryRows_88 kl_X2_75 (ih _ _ j (by omega) (hP9.down (by omega) (by omega)) hW9) (px_fitS (by omega)) rfl rfl rfl (Nat.le_of_ble_eq_true rfl) (fun r9 W9 hp9 hl9 => ?_)
            obtain ⟨pv8, pa8, rfl, hP8, hW8, rfl⟩ := hp9
            have q19 : (nI j).toNatClampNeg = j := nI_clamp (by omega)
            have q20 : ((pa8 11) j) = (nI (pst S (a 54) (s + 1) (5 * y + j) j)) := hP8.1 j (by omega)
            have q21 : ((nI (pst S (a 54) (s + 1) (5 * y + j) j)) &&& ((nI ((aslN S (a 54)) &&& 2 ^ s)) ^^^ (-1))) = (nI ((pst S (a 54) (s + 1) (5 * y + j) j) &&& (63 ^^^ ((aslN S (a 54)) &&& 2 ^ s)))) := andn_all ⟨_, hpk⟩ ⟨_, hb64⟩
            have q22 : ((nI j) + (nI 1)) = (nI (j + 1)) := px_eadd rfl rfl
            refine XG.blk tX2_tryRows_ok 52 11 (pc' := 107) (pl' := [some (.ref 0), some (.ref 36), some (.int (nI s)), some (.int (nI ((aslN S (a 54)) &&& 2 ^ s))), some (.int (nI 1)), some (.int ((nI j) + (nI 1)))]) (st' := []) (W1 := (pW pv8 (va_up pa8 11 (upd (pa8 11) (nI j).toNatClampNeg (((pa8 11) (nI j).toNatClampNeg) &&& ((nI ((aslN S (a 54)) &&& 2 ^ s)) ^^^ (-1))))) gv ga ov oa se tv ta tb nv na)) (bs := [px_vb (nI j) 5, px_vb (nI j) 5]) rfl rfl (by (try simp only [q19, q20, q21, q22]); exact (px_all (px_vbN (by omega) (by decide)) (px_all (px_vbN (by omega) (by decide)) rfl))) ?_
            simp only [q19, q20, q21, q22]
            refine XG.goto eX2_tryRows_107 (tgt := 57) (by decide) ?_
            rw [← Nat.add_assoc] at ihj
            exact ihj _ _ (hP8.back hsl2 (by omega) (by omega)) hW8
    · exfalso
      have g17 : ¬ s < 6 := (fun z => h17 ((nI_ltI (a := s) (b := 6) (by omega) (by omega)).mpr z))
      omega
theorem cc_tryRows (gv : Nat → Int32) (ga : Nat → Nat → Int32) (ov : Nat → Int32) (oa : Nat → Nat → Int32) (se : Nat → Int32) (tv : Nat → Int32) (ta : Nat → Nat → Int32) (tb : Nat → Nat → Int64) (nv : Nat → Int32) (na : Nat → Nat → Int32) (S : SD) (lv : Nat) (v : Nat → Int32) (a : Nat → Nat → Int32) (hX : CX S lv (aQ a) tv ta) (hN : CNt S (a 54) nv na) (x : Int32) : ∀ (k d s y : Nat) (pv : Nat → Int32) (pa : Nat → Nat → Int32), s + k = S.1 24 → y < 5 ^ s → (∀ b, b < s → dig y (s - 1 - b) < S.1 23) → TRp S lv a s y pa → wkS x a lv (S.1 23) (S.1 24) (S.1 31) (y * 5 ^ k) pv pa → k + 2 ≤ d → Con mX2_tryRows d [.ref 0, .ref 36, .int (nI s)] (pW pv pa gv ga ov oa se tv ta tb nv na) (fun r W' => ∃ pv' pa', W' = pW pv' pa' gv ga ov oa se tv ta tb nv na ∧ TRp S lv a s y pa' ∧ wkS x a lv (S.1 23) (S.1 24) (S.1 31) ((y + 1) * 5 ^ k) pv' pa' ∧ r = none) := by
  have hsl2 := hX.sl.2
  have hsp2 := hX.sp.2.2
  intro k
  induction k with
  | zero =>
    intro d s y pv pa hs hy hok hP hW hd
    exact cc_tryRows0 d pv pa gv ga ov oa se tv ta tb nv na S lv v a hX hN s y hs hok (Nat.lt_of_lt_of_le hy (Nat.le_trans (Nat.pow_le_pow_right (by decide) (show s ≤ 6 by omega)) (by decide))) hP x hW hd
  | succ k ih =>
    intro d s y pv pa hs hy hok hP hW hd
    have hle : (5 * y + 5) * 5 ^ k ≤ 5 ^ (S.1 24) := by
      rw [← hs, Nat.pow_add, Nat.pow_succ', ← Nat.mul_assoc]
      refine Nat.mul_le_mul_right _ ?_
      omega
    have h56 : 5 ^ (S.1 24) ≤ 5 ^ 6 := Nat.pow_le_pow_right (by decide) hsl2
    refine cc_tryRowsS d pv pa gv ga ov oa se tv ta tb nv na S lv v a hX hN k s y hs hok hP x hW (Nat.lt_of_le_of_lt (Nat.le_trans hle h56) (by decide)) (fun pv8 pa8 j hj hP8 hW8 => ?_) (by omega)
    refine ih (d - 1) (s + 1) (5 * y + j) pv8 pa8 (by omega) ?_ (fun b hb => ?_) hP8 hW8 (by omega)
    · rw [Nat.pow_succ]; omega
    · by_cases e : b = s
      · subst e; rw [show b + 1 - 1 - b = 0 by omega, dig_0 (by omega)]; exact hj
      · rw [show s + 1 - 1 - b = (s - 1 - b) + 1 by omega, dig_s (by omega)]; exact hok b (by omega)
theorem pst_0 {S : SD} {R : Nat → Int32} {y p : Nat} : pst S R 0 y p = 0 := mkN_0 _ (fun k hk => by rw [decide_eq_false (Nat.not_lt_zero k), Bool.false_and])
set_option maxHeartbeats 1000000 in
theorem cc_findRows (d : Nat) (pv : Nat → Int32) (pa : Nat → Nat → Int32) (gv : Nat → Int32) (ga : Nat → Nat → Int32) (ov : Nat → Int32) (oa : Nat → Nat → Int32) (se : Nat → Int32) (tv : Nat → Int32) (ta : Nat → Nat → Int32) (tb : Nat → Nat → Int64) (nv : Nat → Int32) (na : Nat → Nat → Int32) (S : SD) (lv : Nat) (v : Nat → Int32) (a : Nat → Nat → Int32) (hX : CX S lv (aQ a) tv ta) (hN : CNt S (a 54) nv na) (x : Int32) (hd : 9 ≤ d) : Con mX2_findRows d [.ref 0, .ref 36] (pW pv pa gv ga ov oa se tv ta tb nv na) (fun r W' => ∃ pv' pa' gv' ga' ov' oa' se' sk', W' = pW pv' pa' gv' ga' ov' oa' se' tv (va_up ta 22 sk') tb nv na ∧ wkS x a lv (S.1 23) (S.1 24) (S.1 31) (5 ^ S.1 24) pv' pa' ∧ r = some (.int (pv' 0))) := by
  obtain ⟨hcr, hcr2⟩ := hX.cr
  obtain ⟨hsl, hsl2⟩ := hX.sl
  obtain ⟨hsp, hsp1, hsp2⟩ := hX.sp
  have hT := hX.1
  have hA : (aslN S (a 54)) < 64 := mkN_64 hsl2
  refine Con.of (by decide) (Nat.le_of_ble_eq_true rfl) ?_
  refine XG.blk tX2_findRows_ok 0 2 (pc' := 2) (pl' := [some (.ref 0), some (.ref 36), some (.int (nI 0)), none]) (st' := []) (W1 := (pW pv pa gv ga ov oa se tv ta tb nv na)) (bs := []) rfl rfl rfl ?_
  refine px_for (S.1 23) (fun i => ∀ (pa9 : Nat → Nat → Int32) (se9 sk9 : Nat → Int32) (_ : ∀ p, p < i → pa9 11 p = nI 0) (_ : (∀ p, p < S.1 23 → ∀ m, m &&& (aslN S (a 54)) = m → (p < i ∨ (p = i ∧ m < 0)) → pa9 12 (p * 64 + m) = bV S lv (aQ a) (a 54) (nI p) m)), XG mX2_findRows _ 0 0 2 [some (.ref 0), some (.ref 36), some (.int (nI i)), none] [] (pW pv pa9 gv ga ov oa se9 tv (va_up ta 22 sk9) tb nv na)) ?_ ?_ 0 (Nat.zero_le _) _ se (ta 22) (fun p hp => absurd hp (Nat.not_lt_zero _)) (fun p hp m hm h => by omega)
  · intro pa9 se9 sk9 hZ9 hB9
    have q1 : (tv 0) = (nI (S.1 23)) := hsp
    refine XG.blk tX2_findRows_ok 2 5 (pc' := 13) (pl' := [some (.ref 0), some (.ref 36), some (.int (nI (S.1 23))), none]) (st' := [(.int (tv 0)), (.int (nI (S.1 23)))]) (W1 := (pW pv pa9 gv ga ov oa se9 tv (va_up ta 22 sk9) tb nv na)) (bs := []) rfl rfl rfl ?_
    simp only [q1]
    refine XG.br eX2_findRows_13 (P := (nI (S.1 23)) ≤ (nI (S.1 23))) (r := []) rfl (tgt := 75) (by decide) (fun h13 => ?_) (fun h13 => ?_)
    · skip
      have g13 : (S.1 23) ≤ (S.1 23) := (nI_leI (a := (S.1 23)) (b := (S.1 23)) (by omega) (by omega)).mp h13
      refine XG.blk tX2_findRows_ok 43 6 (pc' := 83) (pl' := [some (.ref 0), some (.ref 36), some (.int (nI (S.1 23))), none]) (st' := [(.int (nI 0)), (.ref 36), (.ref 0)]) (W1 := (pW (va_up pv 0 (-1)) pa9 gv ga ov oa se9 tv (va_up ta 22 sk9) tb nv na)) (bs := []) rfl rfl rfl ?_
      refine XG.callV0 eX2_findRows_83 kl_X2_75 (cc_tryRows gv ga ov oa se9 tv (va_up ta 22 sk9) tb nv na S lv v a hX hN x (S.1 24) (d - 1) 0 0 (va_up pv 0 (-1)) pa9 (Nat.zero_add _) (by decide) (fun b hb => absurd hb (Nat.not_lt_zero _)) ⟨fun p hp => (hZ9 p hp).trans (by rw [pst_0]), fun b hb => absurd hb (Nat.not_lt_zero _), fun p hp m hm => hB9 p hp m hm (Or.inl hp)⟩ (by rw [Nat.zero_mul]; exact ⟨fun _ => rfl, fun z => absurd (show (-1 : Int32) < 0 by decide) z⟩) (by omega)) (px_fitS (by omega)) rfl rfl rfl (Nat.le_of_ble_eq_true rfl) (fun r9 W9 hp9 hl9 => ?_)
      obtain ⟨pv8, pa8, rfl, hP8, hW8, rfl⟩ := hp9
      refine XG.blk tX2_findRows_ok 50 2 (pc' := 90) (pl' := [some (.ref 0), some (.ref 36), some (.int (nI (S.1 23))), none]) (st' := [(.int (pv8 0))]) (W1 := (pW pv8 pa8 gv ga ov oa se9 tv (va_up ta 22 sk9) tb nv na)) (bs := []) rfl rfl rfl ?_
      refine XS.iret eX2_findRows_90 rfl rfl ?_
      refine ⟨_, _, _, _, _, _, _, _, rfl, ?_, rfl⟩
      rw [Nat.zero_add, Nat.one_mul] at hW8; exact hW8
    · exfalso
      have g13 : ¬ (S.1 23) ≤ (S.1 23) := (fun z => h13 ((nI_leI (a := (S.1 23)) (b := (S.1 23)) (by omega) (by omega)).mpr z))
      omega
  · intro i hi ihi pa9 se9 sk9 hZ9 hB9
    have q2 : (tv 0) = (nI (S.1 23)) := hsp
    refine XG.blk tX2_findRows_ok 2 5 (pc' := 13) (pl' := [some (.ref 0), some (.ref 36), some (.int (nI i)), none]) (st' := [(.int (tv 0)), (.int (nI i))]) (W1 := (pW pv pa9 gv ga ov oa se9 tv (va_up ta 22 sk9) tb nv na)) (bs := []) rfl rfl rfl ?_
    simp only [q2]
    refine XG.br eX2_findRows_13 (P := (nI (S.1 23)) ≤ (nI i)) (r := []) rfl (tgt := 75) (by decide) (fun h13 => ?_) (fun h13 => ?_)
    · exfalso
      have g13 : (S.1 23) ≤ i := (nI_leI (a := (S.1 23)) (b := i) (by omega) (by omega)).mp h13
      omega
    · skip
      have g13 : ¬ (S.1 23) ≤ i := (fun z => h13 ((nI_leI (a := (S.1 23)) (b := i) (by omega) (by omega)).mpr z))
      have q3 : (nI i).toNatClampNeg = i := nI_clamp (by omega)
      refine XG.blk tX2_findRows_ok 8 7 (pc' := 25) (pl' := [some (.ref 0), some (.ref 36), some (.int (nI i)), some (.int (nI 0))]) (st' := []) (W1 := (pW pv (va_up pa9 11 (upd (pa9 11) (nI i).toNatClampNeg (nI 0))) gv ga ov oa se9 tv (va_up ta 22 sk9) tb nv na)) (bs := [px_vb (nI i) 5]) rfl rfl (by (try simp only [q3]); exact (px_all (px_vbN (by omega) (by decide)) rfl)) ?_
      simp only [q3]
      have hZ8 : ∀ p, p < i + 1 → (va_up pa9 11 (upd (pa9 11) i (nI 0))) 11 p = nI 0 := by
        intro p hp
        show upd (pa9 11) i (nI 0) p = _
        by_cases e : p = i
        · rw [e, upd_eq]
        · rw [upd_ne e]; exact hZ9 p (by omega)
      have hB8 : (∀ p, p < S.1 23 → ∀ m, m &&& (aslN S (a 54)) = m → (p < i ∨ (p = i ∧ m < 0)) → (va_up pa9 11 (upd (pa9 11) i (nI 0))) 12 (p * 64 + m) = bV S lv (aQ a) (a 54) (nI p) m) := hB9
      refine px_for 64 (fun j => ∀ (pa9 : Nat → Nat → Int32) (se9 sk9 : Nat → Int32) (_ : ∀ p, p < (i + 1) → pa9 11 p = nI 0) (_ : (∀ p, p < S.1 23 → ∀ m, m &&& (aslN S (a 54)) = m → (p < i ∨ (p = i ∧ m < j)) → pa9 12 (p * 64 + m) = bV S lv (aQ a) (a 54) (nI p) m)), XG mX2_findRows _ 0 0 25 [some (.ref 0), some (.ref 36), some (.int (nI i)), some (.int (nI j))] [] (pW pv pa9 gv ga ov oa se9 tv (va_up ta 22 sk9) tb nv na)) ?_ ?_ 0 (Nat.zero_le _) (va_up pa9 11 (upd (pa9 11) i (nI 0))) _ _ hZ8 hB8
      · intro pa9 se9 sk9 hZ9 hB9
        refine XG.blk tX2_findRows_ok 15 2 (pc' := 28) (pl' := [some (.ref 0), some (.ref 36), some (.int (nI i)), some (.int (nI 64))]) (st' := [(.int (nI 64)), (.int (nI 64))]) (W1 := (pW pv pa9 gv ga ov oa se9 tv (va_up ta 22 sk9) tb nv na)) (bs := []) rfl rfl rfl ?_
        refine XG.br eX2_findRows_28 (P := (nI 64) ≤ (nI 64)) (r := []) rfl (tgt := 69) (by decide) (fun h28 => ?_) (fun h28 => ?_)
        · skip
          have g28 : 64 ≤ 64 := (nI_leI (a := 64) (b := 64) (by omega) (by omega)).mp h28
          have q4 : ((nI i) + (nI 1)) = (nI (i + 1)) := px_eadd rfl rfl
          refine XG.blk tX2_findRows_ok 41 1 (pc' := 72) (pl' := [some (.ref 0), some (.ref 36), some (.int ((nI i) + (nI 1))), some (.int (nI 64))]) (st' := []) (W1 := (pW pv pa9 gv ga ov oa se9 tv (va_up ta 22 sk9) tb nv na)) (bs := []) rfl rfl rfl ?_
          simp only [q4]
          refine XG.goto eX2_findRows_72 (tgt := 2) (by decide) ?_
          refine XG.weak (pl' := [some (.ref 0), some (.ref 36), some (.int (nI (i + 1))), none]) ⟨rfl, rfl, rfl, trivial⟩ ?_
          refine ihi _ _ _ hZ9 (fun p hp m hm h => hB9 p hp m hm ?_)
          have hm64 := and_lt64 hm hA
          omega
        · exfalso
          have g28 : ¬ 64 ≤ 64 := (fun z => h28 ((nI_leI (a := 64) (b := 64) (by omega) (by omega)).mpr z))
          omega
      · intro j hj ihj pa9 se9 sk9 hZ9 hB9
        refine XG.blk tX2_findRows_ok 15 2 (pc' := 28) (pl' := [some (.ref 0), some (.ref 36), some (.int (nI i)), some (.int (nI j))]) (st' := [(.int (nI 64)), (.int (nI j))]) (W1 := (pW pv pa9 gv ga ov oa se9 tv (va_up ta 22 sk9) tb nv na)) (bs := []) rfl rfl rfl ?_
        refine XG.br eX2_findRows_28 (P := (nI 64) ≤ (nI j)) (r := []) rfl (tgt := 69) (by decide) (fun h28 => ?_) (fun h28 => ?_)
        · exfalso
          have g28 : 64 ≤ j := (nI_leI (a := 64) (b := j) (by omega) (by omega)).mp h28
          omega
        · skip
          have g28 : ¬ 64 ≤ j := (fun z => h28 ((nI_leI (a := 64) (b := j) (by omega) (by omega)).mpr z))
          have q5 : (nv 4) = (nI (aslN S (a 54))) := hN.2.2.2.2.1
          refine XG.blk tX2_findRows_ok 18 6 (pc' := 39) (pl' := [some (.ref 0), some (.ref 36), some (.int (nI i)), some (.int (nI j))]) (st' := [(.int ((nI j) &&& ((nv 4) ^^^ (-1))))]) (W1 := (pW pv pa9 gv ga ov oa se9 tv (va_up ta 22 sk9) tb nv na)) (bs := []) rfl rfl rfl ?_
          simp only [q5]
          refine XG.br eX2_findRows_39 (P := ¬ ((nI j) &&& ((nI (aslN S (a 54))) ^^^ (-1))) = 0) (r := []) rfl (tgt := 63) (by decide) (fun h39 => ?_) (fun h39 => ?_)
          · skip
            have q6 : ((nI j) + (nI 1)) = (nI (j + 1)) := px_eadd rfl rfl
            refine XG.blk tX2_findRows_ok 39 1 (pc' := 66) (pl' := [some (.ref 0), some (.ref 36), some (.int (nI i)), some (.int ((nI j) + (nI 1)))]) (st' := []) (W1 := (pW pv pa9 gv ga ov oa se9 tv (va_up ta 22 sk9) tb nv na)) (bs := []) rfl rfl rfl ?_
            simp only [q6]
            refine XG.goto eX2_findRows_66 (tgt := 25) (by decide) ?_
            refine ihj _ _ _ hZ9 (fun p hp m hm h => ?_)
            rcases h with h | ⟨h1, h2⟩
            · exact hB9 p hp m hm (Or.inl h)
            · rcases (show m < j ∨ m = j by omega) with h3 | h3
              · exact hB9 p hp m hm (Or.inr ⟨h1, h3⟩)
              · exfalso; subst h3; exact h39 ((ch_sub (by omega) hA).mpr hm)
          · skip
            have h39 := Decidable.not_not.mp h39
            have hsub := (ch_sub (by omega) hA).mp h39
            have q7 : ((nI i) * (nI 64)) = (nI (i * 64)) := px_emul rfl rfl
            have q8 : ((nI (i * 64)) + (nI j)) = (nI ((i * 64) + j)) := px_eadd rfl rfl
            refine XG.blk tX2_findRows_ok 25 12 (pc' := 59) (pl' := [some (.ref 0), some (.ref 36), some (.int (nI i)), some (.int (nI j))]) (st' := [(.int (nI j)), (.int (nI i)), (.ref 36), (.ref 19), (.int (((nI i) * (nI 64)) + (nI j))), (.ref 5)]) (W1 := (pW pv pa9 gv ga ov oa se9 tv (va_up ta 22 sk9) tb nv na)) (bs := []) rfl rfl rfl ?_
            simp only [q7, q8]
            refine XG.callV (ro := [19, 20, 21, 22, 23, 24, 25, 26, 27, 28, 29, 30, 31, 32, 33, 34, 35, 36, 37, 38, 39, 40]) (W1 := (rW se9 tv (va_up ta 22 sk9) tb nv na)) eX2_findRows_59 kl_X2_68 (cc_borneBy (d - 1) se9 tv (va_up ta 22 sk9) tb nv na S lv (aQ a) hX (a 54) hN (nI i) j (by omega) (by omega)) (px_fitS (by omega)) rfl ⟨rfl, by decide, by decide⟩ rfl rfl (Nat.le_of_ble_eq_true rfl) (fun r9 W9 hp9 hl9 => ?_)
            obtain ⟨se1, sk1, rfl, rfl⟩ := hp9
            rw [pt_prn]
            show XG _ _ _ _ _ _ [(.int (bV S lv (aQ a) (a 54) (nI i) j)), (.int (nI ((i * 64) + j))), (.ref 5)] (pW pv pa9 gv ga ov oa se1 tv (va_up ta 22 sk1) tb nv na)
            have q9 : (nI ((i * 64) + j)).toNatClampNeg = ((i * 64) + j) := nI_clamp (by omega)
            have q10 : ((nI j) + (nI 1)) = (nI (j + 1)) := px_eadd rfl rfl
            refine XG.blk tX2_findRows_ok 38 2 (pc' := 66) (pl' := [some (.ref 0), some (.ref 36), some (.int (nI i)), some (.int ((nI j) + (nI 1)))]) (st' := []) (W1 := (pW pv (va_up pa9 12 (upd (pa9 12) (nI ((i * 64) + j)).toNatClampNeg (bV S lv (aQ a) (a 54) (nI i) j))) gv ga ov oa se1 tv (va_up ta 22 sk1) tb nv na)) (bs := [px_vb (nI ((i * 64) + j)) 320]) rfl rfl (by (try simp only [q9, q10]); exact (px_all (px_vbN (by omega) (by decide)) rfl)) ?_
            simp only [q9, q10]
            refine XG.goto eX2_findRows_66 (tgt := 25) (by decide) ?_
            refine ihj _ _ _ hZ9 (fun p hp m hm h => ?_)
            have hm64 := and_lt64 hm hA
            show upd (pa9 12) (i * 64 + j) _ (p * 64 + m) = _
            by_cases e : p = i ∧ m = j
            · obtain ⟨rfl, rfl⟩ := e; rw [upd_eq]
            · rw [upd_ne (by omega)]; exact hB9 p hp m hm (by omega)
