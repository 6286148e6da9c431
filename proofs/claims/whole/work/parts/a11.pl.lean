/-! THE CLASS: plans, sets of sleepers -/
def chS (p : Int32 × Int32) (x y : Int32) : Prop := (p.1 < 0 → p = (-2, -2) ∧ x = -1) ∧ (¬ p.1 < 0 → x = p.1 ∧ y = p.2)
theorem chS.no {p : Int32 × Int32} {x y : Int32} (h : chS p x y) : p.1 < 0 ↔ x = -1 := by
  refine ⟨fun z => (h.1 z).2, fun z => Decidable.not_not.mp (fun n => n ?_)⟩
  have h2 := (h.2 n).1
  rw [← h2, z]; decide
theorem chS.yes {k : Nat} (hk : k < 2 ^ 31) (y : Int32) : chS (nI k, y) (nI k) y := ⟨fun z => absurd z (nI_nn hk), fun _ => ⟨rfl, rfl⟩⟩
theorem chS.first (y : Int32) : chS (-2, -2) (-1) y := ⟨fun _ => ⟨rfl, rfl⟩, fun z => absurd (show (-2 : Int32) < 0 by decide) z⟩
theorem ch_sub {s A : Nat} (hs : s < 64) (hA : A < 64) : (nI s &&& (nI A ^^^ (-1)) = 0) ↔ s &&& A = s := sub_all ⟨s, hs⟩ ⟨A, hA⟩
theorem ch_64 {a0 : Nat → Nat → Int32} {lv sp sl cr : Nat} {r0 : Nat → Int32} {A : Nat} {ld : Int32} (hA : A < 64) (p : Int32 × Int32) : ∀ m, A + 1 ≤ m → m ≤ 64 → itN (chF a0 lv sp sl cr r0 (nI A) ld) p m = itN (chF a0 lv sp sl cr r0 (nI A) ld) p (A + 1) := by
  intro m
  induction m with
  | zero => intro h; omega
  | succ m ih =>
    intro h1 h2
    by_cases e : A = m
    · subst e; rfl
    · show chF a0 lv sp sl cr r0 (nI A) ld m (itN (chF a0 lv sp sl cr r0 (nI A) ld) p m) = _
      rw [ih (by omega) (by omega)]
      refine if_neg (fun z => ?_)
      have h3 := (ch_sub (by omega) hA).mp z.1
      have h4 : m &&& A ≤ A := Nat.and_le_right
      omega
theorem chR_64 {S : SD} {lv : Nat} {a : Nat → Nat → Int32} {tv : Nat → Int32} {ta : Nat → Nat → Int32} (hX : CX S lv (aQ a) tv ta) (ld : Int32) : chR a lv (S.1 23) (S.1 24) (S.1 31) ld = itN (chF (aQ a) lv (S.1 23) (S.1 24) (S.1 31) (a 54) (nI (aslN S (a 54))) ld) ((-2), (-2)) 64 := by
  have hA : aslN S (a 54) < 64 := mkN_64 hX.sl.2
  unfold chR
  rw [show a 35 lv = nI (S.1 35) from hX.dw.2.2, asl_mk _ _ hX.sl.2, nI_clamp (Nat.lt_trans hA (by decide)), ch_64 hA _ 64 (by omega) (Nat.le_refl _)]
theorem ms_al {A x : Nat} (hA : A < 64) (hx : x < 6) : nI A &&& ((nI 1 <<< (nI x &&& 31)) ^^^ (-1)) = nI (A &&& (63 ^^^ 2 ^ x)) := by
  rw [sh_pow (by omega)]; exact andn_all ⟨A, hA⟩ ⟨2 ^ x, two6 hx⟩
theorem ms_sub (A B : Nat) : (A &&& B) &&& A = A &&& B := by
  apply Nat.eq_of_testBit_eq
  intro k
  rw [Nat.testBit_and, Nat.testBit_and]
  cases A.testBit k <;> cases B.testBit k <;> rfl
theorem msF_eq (a0 : Nat → Nat → Int32) (lv sp sl cr : Nat) (r0 : Nat → Int32) (al : Int32) (x : Nat) (p : Int32 × Int32) : msF a0 lv sp sl cr r0 al x p = if ((al >>> (nI x &&& 31)) &&& nI 1) = 0 then p else if p.1 < 0 ∨ lR a0 lv sp sl cr (saF r0 sl (al &&& ((nI 1 <<< (nI x &&& 31)) ^^^ (-1)))) < p.2 then (nI x, lR a0 lv sp sl cr (saF r0 sl (al &&& ((nI 1 <<< (nI x &&& 31)) ^^^ (-1))))) else p := rfl
theorem msR_al {S : SD} {lv : Nat} {a : Nat → Nat → Int32} {tv : Nat → Int32} {ta : Nat → Nat → Int32} (hX : CX S lv (aQ a) tv ta) : msR a lv (S.1 23) (S.1 24) (S.1 31) = itN (msF (aQ a) lv (S.1 23) (S.1 24) (S.1 31) (a 54) (nI (aslN S (a 54)))) ((-2), (-2)) (S.1 24) := by
  unfold msR
  rw [show a 35 lv = nI (S.1 35) from hX.dw.2.2, asl_mk _ _ hX.sl.2]
set_option maxHeartbeats 1000000 in
theorem cc_findCheapest (d : Nat) (pv : Nat → Int32) (pa : Nat → Nat → Int32) (gv : Nat → Int32) (ga : Nat → Nat → Int32) (ov : Nat → Int32) (oa : Nat → Nat → Int32) (se : Nat → Int32) (tv : Nat → Int32) (ta : Nat → Nat → Int32) (tb : Nat → Nat → Int64) (nv : Nat → Int32) (na : Nat → Nat → Int32) (S : SD) (lv : Nat) (v : Nat → Int32) (a : Nat → Nat → Int32) (hX : CX S lv (aQ a) tv ta) (hN : CNt S (a 54) nv na) (ld : Int32) (hd : 5 ≤ d) : Con mX2_findCheapest d [.ref 0, .ref 36, .int ld] (pW pv pa gv ga ov oa se tv ta tb nv na) (fun r W' => ∃ pv' pa' gv' ga' ov' oa' se' sk', W' = pW pv' pa' gv' ga' ov' oa' se' tv (va_up ta 22 sk') tb nv na ∧ chS (chR a lv (S.1 23) (S.1 24) (S.1 31) ld) (pv' 1) (pv' 3) ∧ r = some (.int (if (chR a lv (S.1 23) (S.1 24) (S.1 31) ld).1 < 0 then 0 else 1))) := by
  obtain ⟨hcr, hcr2⟩ := hX.cr
  obtain ⟨hsl, hsl2⟩ := hX.sl
  obtain ⟨hsp, hsp1, hsp2⟩ := hX.sp
  have hA : (aslN S (a 54)) < 64 := mkN_64 hsl2
  refine Con.of (by decide) (Nat.le_of_ble_eq_true rfl) ?_
  refine XG.blk tX2_findCheapest_ok 0 3 (pc' := 5) (pl' := [some (.ref 0), some (.ref 36), some (.int ld), none, none]) (st' := [(.ref 36), (.ref 7)]) (W1 := (pW pv pa gv ga ov oa se tv ta tb nv na)) (bs := []) rfl rfl rfl ?_
  refine XG.callV (ro := [7, 8, 9, 10, 11, 36, 37, 38, 39, 40]) (W1 := (cW gv ga nv na)) eX2_findCheapest_5 kl_X2_97 (cc_copy (d - 1) gv ga nv na (by omega)) (px_fitS (by omega)) rfl ⟨rfl, by decide, by decide⟩ rfl rfl (Nat.le_of_ble_eq_true rfl) (fun r9 W9 hp9 hl9 => ?_)
  obtain ⟨gv1, ga1, rfl, hE1, rfl⟩ := hp9
  have hN1 : CNt S (a 54) gv1 ga1 := hN.eq hsl2 hE1
  rw [pt_pcg]
  show XG _ _ _ _ _ _ [] (pW pv pa gv1 ga1 ov oa se tv ta tb nv na)
  refine XG.blk tX2_findCheapest_ok 4 5 (pc' := 15) (pl' := [some (.ref 0), some (.ref 36), some (.int ld), some (.int (nI 0)), none]) (st' := []) (W1 := (pW (va_up pv 1 (-1)) pa gv1 ga1 ov oa se tv ta tb nv na)) (bs := []) rfl rfl rfl ?_
  refine px_for 64 (fun i => ∀ (pv9 : Nat → Int32) (se9 sk9 : Nat → Int32) (x9 : Int32) (_ : chS (itN (chF (aQ a) lv (S.1 23) (S.1 24) (S.1 31) (a 54) (nI (aslN S (a 54))) ld) ((-2), (-2)) i) (pv9 1) (pv9 3)), XG mX2_findCheapest _ 0 0 15 [some (.ref 0), some (.ref 36), some (.int ld), some (.int (nI i)), none] [] (pW pv9 pa (va_up gv1 4 x9) ga1 ov oa se9 tv (va_up ta 22 sk9) tb nv na)) ?_ ?_ 0 (Nat.zero_le _) (va_up pv 1 (-1)) se (ta 22) (gv1 4) (chS.first _)
  · intro pv9 se9 sk9 x9 hM9
    refine XG.blk tX2_findCheapest_ok 9 2 (pc' := 18) (pl' := [some (.ref 0), some (.ref 36), some (.int ld), some (.int (nI 64)), none]) (st' := [(.int (nI 64)), (.int (nI 64))]) (W1 := (pW pv9 pa (va_up gv1 4 x9) ga1 ov oa se9 tv (va_up ta 22 sk9) tb nv na)) (bs := []) rfl rfl rfl ?_
    refine XG.br eX2_findCheapest_18 (P := (nI 64) ≤ (nI 64)) (r := []) rfl (tgt := 105) (by decide) (fun h18 => ?_) (fun h18 => ?_)
    · skip
      have g18 : 64 ≤ 64 := (nI_leI (a := 64) (b := 64) (by omega) (by omega)).mp h18
      refine XG.blk tX2_findCheapest_ok 53 3 (pc' := 110) (pl' := [some (.ref 0), some (.ref 36), some (.int ld), some (.int (nI 64)), none]) (st' := [(.int (-1)), (.int (pv9 1))]) (W1 := (pW pv9 pa (va_up gv1 4 x9) ga1 ov oa se9 tv (va_up ta 22 sk9) tb nv na)) (bs := []) rfl rfl rfl ?_
      refine XG.br eX2_findCheapest_110 (P := (pv9 1) = (-1)) (r := []) rfl (tgt := 117) (by decide) (fun h110 => ?_) (fun h110 => ?_)
      · skip
        refine XG.blk tX2_findCheapest_ok 59 1 (pc' := 118) (pl' := [some (.ref 0), some (.ref 36), some (.int ld), some (.int (nI 64)), none]) (st' := [(.int (nI 0))]) (W1 := (pW pv9 pa (va_up gv1 4 x9) ga1 ov oa se9 tv (va_up ta 22 sk9) tb nv na)) (bs := []) rfl rfl rfl ?_
        refine XS.iret eX2_findCheapest_118 rfl (by decide) ?_
        rw [chR_64 hX]
        refine ⟨_, _, _, _, _, _, _, _, rfl, hM9, ?_⟩
        rw [if_pos (hM9.no.mpr h110)]; rfl
      · skip
        refine XG.blk tX2_findCheapest_ok 57 1 (pc' := 114) (pl' := [some (.ref 0), some (.ref 36), some (.int ld), some (.int (nI 64)), none]) (st' := [(.int (nI 1))]) (W1 := (pW pv9 pa (va_up gv1 4 x9) ga1 ov oa se9 tv (va_up ta 22 sk9) tb nv na)) (bs := []) rfl rfl rfl ?_
        refine XG.goto eX2_findCheapest_114 (tgt := 118) (by decide) ?_
        refine XS.iret eX2_findCheapest_118 rfl (by decide) ?_
        rw [chR_64 hX]
        refine ⟨_, _, _, _, _, _, _, _, rfl, hM9, ?_⟩
        rw [if_neg (fun n => h110 (hM9.no.mp n))]; rfl
    · exfalso
      have g18 : ¬ 64 ≤ 64 := (fun z => h18 ((nI_leI (a := 64) (b := 64) (by omega) (by omega)).mpr z))
      omega
  · intro i hi ihi pv9 se9 sk9 x9 hM9
    refine XG.blk tX2_findCheapest_ok 9 2 (pc' := 18) (pl' := [some (.ref 0), some (.ref 36), some (.int ld), some (.int (nI i)), none]) (st' := [(.int (nI 64)), (.int (nI i))]) (W1 := (pW pv9 pa (va_up gv1 4 x9) ga1 ov oa se9 tv (va_up ta 22 sk9) tb nv na)) (bs := []) rfl rfl rfl ?_
    refine XG.br eX2_findCheapest_18 (P := (nI 64) ≤ (nI i)) (r := []) rfl (tgt := 105) (by decide) (fun h18 => ?_) (fun h18 => ?_)
    · exfalso
      have g18 : 64 ≤ i := (nI_leI (a := 64) (b := i) (by omega) (by omega)).mp h18
      omega
    · skip
      have g18 : ¬ 64 ≤ i := (fun z => h18 ((nI_leI (a := 64) (b := i) (by omega) (by omega)).mpr z))
      refine XG.blk tX2_findCheapest_ok 12 4 (pc' := 29) (pl' := [some (.ref 0), some (.ref 36), some (.int ld), some (.int (nI i)), none]) (st' := [(.int (nI i)), (.ref 21)]) (W1 := (pW pv9 pa (va_up gv1 4 x9) ga1 ov oa se9 tv (va_up ta 22 sk9) tb nv na)) (bs := []) rfl rfl rfl ?_
      refine XG.callV (ro := [21, 22, 23, 24, 25, 26, 27, 28, 29, 30, 31, 32, 33, 34, 35]) (W1 := (tW tv (va_up ta 22 sk9) tb)) eX2_findCheapest_29 kl_X2_114 (cc_wagesOf (d - 1) tv (va_up ta 22 sk9) tb S lv (aQ a) hX (nI i)) (px_fitS (by omega)) rfl ⟨rfl, by decide, by decide⟩ rfl rfl (Nat.le_of_ble_eq_true rfl) (fun r9 W9 hp9 hl9 => ?_)
      obtain ⟨rfl, rfl⟩ := hp9
      rw [pt_pt]
      show XG _ _ _ _ _ _ [(.int (wgF (aQ a 27) lv (S.1 24) (nI i)))] (pW pv9 pa (va_up gv1 4 x9) ga1 ov oa se9 tv (va_up ta 22 sk9) tb nv na)
      have q1 : (nv 4) = (nI (aslN S (a 54))) := hN.2.2.2.2.1
      refine XG.blk tX2_findCheapest_ok 17 7 (pc' := 42) (pl' := [some (.ref 0), some (.ref 36), some (.int ld), some (.int (nI i)), some (.int (wgF (aQ a 27) lv (S.1 24) (nI i)))]) (st' := [(.int ((nI i) &&& ((nv 4) ^^^ (-1))))]) (W1 := (pW pv9 pa (va_up gv1 4 x9) ga1 ov oa se9 tv (va_up ta 22 sk9) tb nv na)) (bs := []) rfl rfl rfl ?_
      simp only [q1]
      refine XG.br eX2_findCheapest_42 (P := ¬ ((nI i) &&& ((nI (aslN S (a 54))) ^^^ (-1))) = 0) (r := []) rfl (tgt := 99) (by decide) (fun h42 => ?_) (fun h42 => ?_)
      · skip
        have q2 : ((nI i) + (nI 1)) = (nI (i + 1)) := px_eadd rfl rfl
        refine XG.blk tX2_findCheapest_ok 51 1 (pc' := 102) (pl' := [some (.ref 0), some (.ref 36), some (.int ld), some (.int ((nI i) + (nI 1))), some (.int (wgF (aQ a 27) lv (S.1 24) (nI i)))]) (st' := []) (W1 := (pW pv9 pa (va_up gv1 4 x9) ga1 ov oa se9 tv (va_up ta 22 sk9) tb nv na)) (bs := []) rfl rfl rfl ?_
        simp only [q2]
        refine XG.goto eX2_findCheapest_102 (tgt := 15) (by decide) ?_
        refine XG.weak (pl' := [some (.ref 0), some (.ref 36), some (.int ld), some (.int (nI (i + 1))), none]) ⟨rfl, rfl, rfl, rfl, trivial⟩ ?_
        refine ihi _ _ _ _ ?_
        rw [show (itN (chF (aQ a) lv (S.1 23) (S.1 24) (S.1 31) (a 54) (nI (aslN S (a 54))) ld) ((-2), (-2)) (i + 1)) = (itN (chF (aQ a) lv (S.1 23) (S.1 24) (S.1 31) (a 54) (nI (aslN S (a 54))) ld) ((-2), (-2)) i) from if_neg (fun z => h42 z.1)]; exact hM9
      · skip
        have h42 := Decidable.not_not.mp h42
        have hsub := (ch_sub (by omega) hA).mp h42
        refine XG.blk tX2_findCheapest_ok 25 3 (pc' := 50) (pl' := [some (.ref 0), some (.ref 36), some (.int ld), some (.int (nI i)), some (.int (wgF (aQ a 27) lv (S.1 24) (nI i)))]) (st' := [(.int (-1)), (.int (pv9 1))]) (W1 := (pW pv9 pa (va_up gv1 4 x9) ga1 ov oa se9 tv (va_up ta 22 sk9) tb nv na)) (bs := []) rfl rfl rfl ?_
        refine XG.br eX2_findCheapest_50 (P := (pv9 1) = (-1)) (r := []) rfl (tgt := 65) (by decide) (fun h50 => ?_) (fun h50 => ?_)
        · skip
          refine XG.blk tX2_findCheapest_ok 34 4 (pc' := 73) (pl' := [some (.ref 0), some (.ref 36), some (.int ld), some (.int (nI i)), some (.int (wgF (aQ a 27) lv (S.1 24) (nI i)))]) (st' := []) (W1 := (pW pv9 pa (va_up gv1 4 (nI i)) ga1 ov oa se9 tv (va_up ta 22 sk9) tb nv na)) (bs := []) rfl rfl rfl ?_
          have hG7 := hN1.sa hsl2 (m := i) hsub
          refine XG.blk tX2_findCheapest_ok 38 4 (pc' := 81) (pl' := [some (.ref 0), some (.ref 36), some (.int ld), some (.int (nI i)), some (.int (wgF (aQ a 27) lv (S.1 24) (nI i)))]) (st' := [(.ref 7), (.ref 19)]) (W1 := (pW pv9 pa (va_up gv1 4 (nI i)) ga1 ov oa se9 tv (va_up ta 22 sk9) tb nv na)) (bs := []) rfl rfl rfl ?_
          refine XG.callV (ro := [19, 20, 21, 22, 23, 24, 25, 26, 27, 28, 29, 30, 31, 32, 33, 34, 35, 7, 8, 9, 10, 11]) (W1 := (rW se9 tv (va_up ta 22 sk9) tb (va_up gv1 4 (nI i)) ga1)) eX2_findCheapest_81 kl_X2_104 (cc_leastBorne (d - 1) se9 tv (va_up ta 22 sk9) tb (va_up gv1 4 (nI i)) ga1 S lv (aQ a) hX (saF (a 54) (S.1 24) (nI i)) hG7 (by omega)) (px_fitS (by omega)) rfl ⟨rfl, by decide, by decide⟩ rfl rfl (Nat.le_of_ble_eq_true rfl) (fun r9 W9 hp9 hl9 => ?_)
          obtain ⟨se2, sk2, rfl, rfl⟩ := hp9
          rw [pt_prg]
          show XG _ _ _ _ _ _ [(.int (lR (aQ a) lv (S.1 23) (S.1 24) (S.1 31) (saF (a 54) (S.1 24) (nI i))))] (pW pv9 pa (va_up gv1 4 (nI i)) ga1 ov oa se2 tv (va_up ta 22 sk2) tb nv na)
          refine XG.blk tX2_findCheapest_ok 43 1 (pc' := 85) (pl' := [some (.ref 0), some (.ref 36), some (.int ld), some (.int (nI i)), some (.int (wgF (aQ a 27) lv (S.1 24) (nI i)))]) (st' := [(.int ld), (.int (lR (aQ a) lv (S.1 23) (S.1 24) (S.1 31) (saF (a 54) (S.1 24) (nI i))))]) (W1 := (pW pv9 pa (va_up gv1 4 (nI i)) ga1 ov oa se2 tv (va_up ta 22 sk2) tb nv na)) (bs := []) rfl rfl rfl ?_
          refine XG.br eX2_findCheapest_85 (P := (lR (aQ a) lv (S.1 23) (S.1 24) (S.1 31) (saF (a 54) (S.1 24) (nI i))) < ld) (r := []) rfl (tgt := 99) (by decide) (fun h85 => ?_) (fun h85 => ?_)
          · skip
            have q3 : ((nI i) + (nI 1)) = (nI (i + 1)) := px_eadd rfl rfl
            refine XG.blk tX2_findCheapest_ok 51 1 (pc' := 102) (pl' := [some (.ref 0), some (.ref 36), some (.int ld), some (.int ((nI i) + (nI 1))), some (.int (wgF (aQ a 27) lv (S.1 24) (nI i)))]) (st' := []) (W1 := (pW pv9 pa (va_up gv1 4 (nI i)) ga1 ov oa se2 tv (va_up ta 22 sk2) tb nv na)) (bs := []) rfl rfl rfl ?_
            simp only [q3]
            refine XG.goto eX2_findCheapest_102 (tgt := 15) (by decide) ?_
            refine XG.weak (pl' := [some (.ref 0), some (.ref 36), some (.int ld), some (.int (nI (i + 1))), none]) ⟨rfl, rfl, rfl, rfl, trivial⟩ ?_
            refine ihi _ _ _ _ ?_
            rw [show (itN (chF (aQ a) lv (S.1 23) (S.1 24) (S.1 31) (a 54) (nI (aslN S (a 54))) ld) ((-2), (-2)) (i + 1)) = (itN (chF (aQ a) lv (S.1 23) (S.1 24) (S.1 31) (a 54) (nI (aslN S (a 54))) ld) ((-2), (-2)) i) from if_neg (fun z => absurd z.2.2 (Int32.not_le.mpr h85))]; exact hM9
          · skip
            have q4 : ((nI i) + (nI 1)) = (nI (i + 1)) := px_eadd rfl rfl
            refine XG.blk tX2_findCheapest_ok 45 7 (pc' := 102) (pl' := [some (.ref 0), some (.ref 36), some (.int ld), some (.int ((nI i) + (nI 1))), some (.int (wgF (aQ a 27) lv (S.1 24) (nI i)))]) (st' := []) (W1 := (pW (va_up (va_up pv9 1 (nI i)) 3 (wgF (aQ a 27) lv (S.1 24) (nI i))) pa (va_up gv1 4 (nI i)) ga1 ov oa se2 tv (va_up ta 22 sk2) tb nv na)) (bs := []) rfl rfl rfl ?_
            simp only [q4]
            refine XG.goto eX2_findCheapest_102 (tgt := 15) (by decide) ?_
            refine XG.weak (pl' := [some (.ref 0), some (.ref 36), some (.int ld), some (.int (nI (i + 1))), none]) ⟨rfl, rfl, rfl, rfl, trivial⟩ ?_
            refine ihi _ _ _ _ ?_
            rw [show (itN (chF (aQ a) lv (S.1 23) (S.1 24) (S.1 31) (a 54) (nI (aslN S (a 54))) ld) ((-2), (-2)) (i + 1)) = (nI i, wgF (aQ a 27) lv (S.1 24) (nI i)) from if_pos ⟨h42, Or.inl (hM9.no.mpr h50), Int32.not_lt.mp h85⟩]; exact chS.yes (by omega) _
        · skip
          refine XG.blk tX2_findCheapest_ok 29 3 (pc' := 59) (pl' := [some (.ref 0), some (.ref 36), some (.int ld), some (.int (nI i)), some (.int (wgF (aQ a 27) lv (S.1 24) (nI i)))]) (st' := [(.int (pv9 3)), (.int (wgF (aQ a 27) lv (S.1 24) (nI i)))]) (W1 := (pW pv9 pa (va_up gv1 4 x9) ga1 ov oa se9 tv (va_up ta 22 sk9) tb nv na)) (bs := []) rfl rfl rfl ?_
          refine XG.br eX2_findCheapest_59 (P := (wgF (aQ a 27) lv (S.1 24) (nI i)) < (pv9 3)) (r := []) rfl (tgt := 65) (by decide) (fun h59 => ?_) (fun h59 => ?_)
          · skip
            refine XG.blk tX2_findCheapest_ok 34 4 (pc' := 73) (pl' := [some (.ref 0), some (.ref 36), some (.int ld), some (.int (nI i)), some (.int (wgF (aQ a 27) lv (S.1 24) (nI i)))]) (st' := []) (W1 := (pW pv9 pa (va_up gv1 4 (nI i)) ga1 ov oa se9 tv (va_up ta 22 sk9) tb nv na)) (bs := []) rfl rfl rfl ?_
            have hG7 := hN1.sa hsl2 (m := i) hsub
            refine XG.blk tX2_findCheapest_ok 38 4 (pc' := 81) (pl' := [some (.ref 0), some (.ref 36), some (.int ld), some (.int (nI i)), some (.int (wgF (aQ a 27) lv (S.1 24) (nI i)))]) (st' := [(.ref 7), (.ref 19)]) (W1 := (pW pv9 pa (va_up gv1 4 (nI i)) ga1 ov oa se9 tv (va_up ta 22 sk9) tb nv na)) (bs := []) rfl rfl rfl ?_
            refine XG.callV (ro := [19, 20, 21, 22, 23, 24, 25, 26, 27, 28, 29, 30, 31, 32, 33, 34, 35, 7, 8, 9, 10, 11]) (W1 := (rW se9 tv (va_up ta 22 sk9) tb (va_up gv1 4 (nI i)) ga1)) eX2_findCheapest_81 kl_X2_104 (cc_leastBorne (d - 1) se9 tv (va_up ta 22 sk9) tb (va_up gv1 4 (nI i)) ga1 S lv (aQ a) hX (saF (a 54) (S.1 24) (nI i)) hG7 (by omega)) (px_fitS (by omega)) rfl ⟨rfl, by decide, by decide⟩ rfl rfl (Nat.le_of_ble_eq_true rfl) (fun r9 W9 hp9 hl9 => ?_)
            obtain ⟨se2, sk2, rfl, rfl⟩ := hp9
            rw [pt_prg]
            show XG _ _ _ _ _ _ [(.int (lR (aQ a) lv (S.1 23) (S.1 24) (S.1 31) (saF (a 54) (S.1 24) (nI i))))] (pW pv9 pa (va_up gv1 4 (nI i)) ga1 ov oa se2 tv (va_up ta 22 sk2) tb nv na)
            refine XG.blk tX2_findCheapest_ok 43 1 (pc' := 85) (pl' := [some (.ref 0), some (.ref 36), some (.int ld), some (.int (nI i)), some (.int (wgF (aQ a 27) lv (S.1 24) (nI i)))]) (st' := [(.int ld), (.int (lR (aQ a) lv (S.1 23) (S.1 24) (S.1 31) (saF (a 54) (S.1 24) (nI i))))]) (W1 := (pW pv9 pa (va_up gv1 4 (nI i)) ga1 ov oa se2 tv (va_up ta 22 sk2) tb nv na)) (bs := []) rfl rfl rfl ?_
            refine XG.br eX2_findCheapest_85 (P := (lR (aQ a) lv (S.1 23) (S.1 24) (S.1 31) (saF (a 54) (S.1 24) (nI i))) < ld) (r := []) rfl (tgt := 99) (by decide) (fun h85 => ?_) (fun h85 => ?_)
            · skip
              have q5 : ((nI i) + (nI 1)) = (nI (i + 1)) := px_eadd rfl rfl
              refine XG.blk tX2_findCheapest_ok 51 1 (pc' := 102) (pl' := [some (.ref 0), some (.ref 36), some (.int ld), some (.int ((nI i) + (nI 1))), some (.int (wgF (aQ a 27) lv (S.1 24) (nI i)))]) (st' := []) (W1 := (pW pv9 pa (va_up gv1 4 (nI i)) ga1 ov oa se2 tv (va_up ta 22 sk2) tb nv na)) (bs := []) rfl rfl rfl ?_
              simp only [q5]
              refine XG.goto eX2_findCheapest_102 (tgt := 15) (by decide) ?_
              refine XG.weak (pl' := [some (.ref 0), some (.ref 36), some (.int ld), some (.int (nI (i + 1))), none]) ⟨rfl, rfl, rfl, rfl, trivial⟩ ?_
              refine ihi _ _ _ _ ?_
              rw [show (itN (chF (aQ a) lv (S.1 23) (S.1 24) (S.1 31) (a 54) (nI (aslN S (a 54))) ld) ((-2), (-2)) (i + 1)) = (itN (chF (aQ a) lv (S.1 23) (S.1 24) (S.1 31) (a 54) (nI (aslN S (a 54))) ld) ((-2), (-2)) i) from if_neg (fun z => absurd z.2.2 (Int32.not_le.mpr h85))]; exact hM9
            · skip
              have q6 : ((nI i) + (nI 1)) = (nI (i + 1)) := px_eadd rfl rfl
              refine XG.blk tX2_findCheapest_ok 45 7 (pc' := 102) (pl' := [some (.ref 0), some (.ref 36), some (.int ld), some (.int ((nI i) + (nI 1))), some (.int (wgF (aQ a 27) lv (S.1 24) (nI i)))]) (st' := []) (W1 := (pW (va_up (va_up pv9 1 (nI i)) 3 (wgF (aQ a 27) lv (S.1 24) (nI i))) pa (va_up gv1 4 (nI i)) ga1 ov oa se2 tv (va_up ta 22 sk2) tb nv na)) (bs := []) rfl rfl rfl ?_
              simp only [q6]
              refine XG.goto eX2_findCheapest_102 (tgt := 15) (by decide) ?_
              refine XG.weak (pl' := [some (.ref 0), some (.ref 36), some (.int ld), some (.int (nI (i + 1))), none]) ⟨rfl, rfl, rfl, rfl, trivial⟩ ?_
              refine ihi _ _ _ _ ?_
              rw [show (itN (chF (aQ a) lv (S.1 23) (S.1 24) (S.1 31) (a 54) (nI (aslN S (a 54))) ld) ((-2), (-2)) (i + 1)) = (nI i, wgF (aQ a 27) lv (S.1 24) (nI i)) from if_pos ⟨h42, Or.inr (by rw [← (hM9.2 (fun n => h50 (hM9.no.mp n))).2]; exact h59), Int32.not_lt.mp h85⟩]; exact chS.yes (by omega) _
          · skip
            refine XG.goto eX2_findCheapest_62 (tgt := 99) (by decide) ?_
            have q7 : ((nI i) + (nI 1)) = (nI (i + 1)) := px_eadd rfl rfl
            refine XG.blk tX2_findCheapest_ok 51 1 (pc' := 102) (pl' := [some (.ref 0), some (.ref 36), some (.int ld), some (.int ((nI i) + (nI 1))), some (.int (wgF (aQ a 27) lv (S.1 24) (nI i)))]) (st' := []) (W1 := (pW pv9 pa (va_up gv1 4 x9) ga1 ov oa se9 tv (va_up ta 22 sk9) tb nv na)) (bs := []) rfl rfl rfl ?_
            simp only [q7]
            refine XG.goto eX2_findCheapest_102 (tgt := 15) (by decide) ?_
            refine XG.weak (pl' := [some (.ref 0), some (.ref 36), some (.int ld), some (.int (nI (i + 1))), none]) ⟨rfl, rfl, rfl, rfl, trivial⟩ ?_
            refine ihi _ _ _ _ ?_
            rw [show (itN (chF (aQ a) lv (S.1 23) (S.1 24) (S.1 31) (a 54) (nI (aslN S (a 54))) ld) ((-2), (-2)) (i + 1)) = (itN (chF (aQ a) lv (S.1 23) (S.1 24) (S.1 31) (a 54) (nI (aslN S (a 54))) ld) ((-2), (-2)) i) from if_neg (fun z => z.2.1.elim (fun n => h50 (hM9.no.mp n)) (fun n => h59 (by rw [(hM9.2 (fun n => h50 (hM9.no.mp n))).2]; exact n)))]; exact hM9
set_option maxHeartbeats 1000000 in
theorem cc_findMissed (d : Nat) (pv : Nat → Int32) (pa : Nat → Nat → Int32) (gv : Nat → Int32) (ga : Nat → Nat → Int32) (ov : Nat → Int32) (oa : Nat → Nat → Int32) (se : Nat → Int32) (tv : Nat → Int32) (ta : Nat → Nat → Int32) (tb : Nat → Nat → Int64) (nv : Nat → Int32) (na : Nat → Nat → Int32) (S : SD) (lv : Nat) (v : Nat → Int32) (a : Nat → Nat → Int32) (hX : CX S lv (aQ a) tv ta) (hN : CNt S (a 54) nv na) (hd : 5 ≤ d) : Con mX2_findMissed d [.ref 0, .ref 36] (pW pv pa gv ga ov oa se tv ta tb nv na) (fun r W' => ∃ pv' pa' gv' ga' ov' oa' se' sk', W' = pW pv' pa' gv' ga' ov' oa' se' tv (va_up ta 22 sk') tb nv na ∧ chS (msR a lv (S.1 23) (S.1 24) (S.1 31)) (pv' 1) (pv' 0) ∧ r = none) := by
  obtain ⟨hcr, hcr2⟩ := hX.cr
  obtain ⟨hsl, hsl2⟩ := hX.sl
  obtain ⟨hsp, hsp1, hsp2⟩ := hX.sp
  have hA : (aslN S (a 54)) < 64 := mkN_64 hsl2
  refine Con.of (by decide) (Nat.le_of_ble_eq_true rfl) ?_
  refine XG.blk tX2_findMissed_ok 0 3 (pc' := 5) (pl' := [some (.ref 0), some (.ref 36), none, none]) (st' := [(.ref 36), (.ref 7)]) (W1 := (pW pv pa gv ga ov oa se tv ta tb nv na)) (bs := []) rfl rfl rfl ?_
  refine XG.callV (ro := [7, 8, 9, 10, 11, 36, 37, 38, 39, 40]) (W1 := (cW gv ga nv na)) eX2_findMissed_5 kl_X2_97 (cc_copy (d - 1) gv ga nv na (by omega)) (px_fitS (by omega)) rfl ⟨rfl, by decide, by decide⟩ rfl rfl (Nat.le_of_ble_eq_true rfl) (fun r9 W9 hp9 hl9 => ?_)
  obtain ⟨gv1, ga1, rfl, hE1, rfl⟩ := hp9
  have hN1 : CNt S (a 54) gv1 ga1 := hN.eq hsl2 hE1
  rw [pt_pcg]
  show XG _ _ _ _ _ _ [] (pW pv pa gv1 ga1 ov oa se tv ta tb nv na)
  refine XG.blk tX2_findMissed_ok 4 5 (pc' := 15) (pl' := [some (.ref 0), some (.ref 36), some (.int (nI 0)), none]) (st' := []) (W1 := (pW (va_up pv 1 (-1)) pa gv1 ga1 ov oa se tv ta tb nv na)) (bs := []) rfl rfl rfl ?_
  refine px_for (S.1 24) (fun i => ∀ (pv9 : Nat → Int32) (se9 sk9 : Nat → Int32) (x9 : Int32) (_ : chS (itN (msF (aQ a) lv (S.1 23) (S.1 24) (S.1 31) (a 54) (nI (aslN S (a 54)))) ((-2), (-2)) i) (pv9 1) (pv9 0)), XG mX2_findMissed _ 0 0 15 [some (.ref 0), some (.ref 36), some (.int (nI i)), none] [] (pW pv9 pa (va_up gv1 4 x9) ga1 ov oa se9 tv (va_up ta 22 sk9) tb nv na)) ?_ ?_ 0 (Nat.zero_le _) (va_up pv 1 (-1)) se (ta 22) (gv1 4) (chS.first _)
  · intro pv9 se9 sk9 x9 hM9
    have q1 : (tv 1) = (nI (S.1 24)) := hsl
    refine XG.blk tX2_findMissed_ok 9 5 (pc' := 26) (pl' := [some (.ref 0), some (.ref 36), some (.int (nI (S.1 24))), none]) (st' := [(.int (tv 1)), (.int (nI (S.1 24)))]) (W1 := (pW pv9 pa (va_up gv1 4 x9) ga1 ov oa se9 tv (va_up ta 22 sk9) tb nv na)) (bs := []) rfl rfl rfl ?_
    simp only [q1]
    refine XG.br eX2_findMissed_26 (P := (nI (S.1 24)) ≤ (nI (S.1 24))) (r := []) rfl (tgt := 104) (by decide) (fun h26 => ?_) (fun h26 => ?_)
    · skip
      have g26 : (S.1 24) ≤ (S.1 24) := (nI_leI (a := (S.1 24)) (b := (S.1 24)) (by omega) (by omega)).mp h26
      refine XS.vret eX2_findMissed_104 rfl ?_
      rw [msR_al hX]; exact ⟨_, _, _, _, _, _, _, _, rfl, hM9, rfl⟩
    · exfalso
      have g26 : ¬ (S.1 24) ≤ (S.1 24) := (fun z => h26 ((nI_leI (a := (S.1 24)) (b := (S.1 24)) (by omega) (by omega)).mpr z))
      omega
  · intro i hi ihi pv9 se9 sk9 x9 hM9
    have q2 : (tv 1) = (nI (S.1 24)) := hsl
    refine XG.blk tX2_findMissed_ok 9 5 (pc' := 26) (pl' := [some (.ref 0), some (.ref 36), some (.int (nI i)), none]) (st' := [(.int (tv 1)), (.int (nI i))]) (W1 := (pW pv9 pa (va_up gv1 4 x9) ga1 ov oa se9 tv (va_up ta 22 sk9) tb nv na)) (bs := []) rfl rfl rfl ?_
    simp only [q2]
    refine XG.br eX2_findMissed_26 (P := (nI (S.1 24)) ≤ (nI i)) (r := []) rfl (tgt := 104) (by decide) (fun h26 => ?_) (fun h26 => ?_)
    · exfalso
      have g26 : (S.1 24) ≤ i := (nI_leI (a := (S.1 24)) (b := i) (by omega) (by omega)).mp h26
      omega
    · skip
      have g26 : ¬ (S.1 24) ≤ i := (fun z => h26 ((nI_leI (a := (S.1 24)) (b := i) (by omega) (by omega)).mpr z))
      have q3 : (nv 4) = (nI (aslN S (a 54))) := hN.2.2.2.2.1
      refine XG.blk tX2_findMissed_ok 15 6 (pc' := 37) (pl' := [some (.ref 0), some (.ref 36), some (.int (nI i)), none]) (st' := [(.int (((nv 4) >>> ((nI i) &&& 31)) &&& (nI 1)))]) (W1 := (pW pv9 pa (va_up gv1 4 x9) ga1 ov oa se9 tv (va_up ta 22 sk9) tb nv na)) (bs := []) rfl rfl rfl ?_
      simp only [q3]
      refine XG.br eX2_findMissed_37 (P := ¬ (((nI (aslN S (a 54))) >>> ((nI i) &&& 31)) &&& (nI 1)) = 0) (r := []) rfl (tgt := 43) (by decide) (fun h37 => ?_) (fun h37 => ?_)
      · skip
        have q4 : (nv 4) = (nI (aslN S (a 54))) := hN.2.2.2.2.1
        have q5 : ((nI (aslN S (a 54))) &&& (((nI 1) <<< ((nI i) &&& 31)) ^^^ (-1))) = (nI ((aslN S (a 54)) &&& (63 ^^^ 2 ^ i))) := ms_al hA (by omega)
        refine XG.blk tX2_findMissed_ok 23 11 (pc' := 60) (pl' := [some (.ref 0), some (.ref 36), some (.int (nI i)), none]) (st' := []) (W1 := (pW pv9 pa (va_up gv1 4 ((nv 4) &&& (((nI 1) <<< ((nI i) &&& 31)) ^^^ (-1)))) ga1 ov oa se9 tv (va_up ta 22 sk9) tb nv na)) (bs := []) rfl rfl rfl ?_
        simp only [q4, q5]
        have hG7 := hN1.sa hsl2 (m := ((aslN S (a 54)) &&& (63 ^^^ 2 ^ i))) (ms_sub _ _)
        refine XG.blk tX2_findMissed_ok 34 4 (pc' := 68) (pl' := [some (.ref 0), some (.ref 36), some (.int (nI i)), none]) (st' := [(.ref 7), (.ref 19)]) (W1 := (pW pv9 pa (va_up gv1 4 (nI ((aslN S (a 54)) &&& (63 ^^^ 2 ^ i)))) ga1 ov oa se9 tv (va_up ta 22 sk9) tb nv na)) (bs := []) rfl rfl rfl ?_
        refine XG.callV (ro := [19, 20, 21, 22, 23, 24, 25, 26, 27, 28, 29, 30, 31, 32, 33, 34, 35, 7, 8, 9, 10, 11]) (W1 := (rW se9 tv (va_up ta 22 sk9) tb (va_up gv1 4 (nI ((aslN S (a 54)) &&& (63 ^^^ 2 ^ i)))) ga1)) eX2_findMissed_68 kl_X2_104 (cc_leastBorne (d - 1) se9 tv (va_up ta 22 sk9) tb (va_up gv1 4 (nI ((aslN S (a 54)) &&& (63 ^^^ 2 ^ i)))) ga1 S lv (aQ a) hX (saF (a 54) (S.1 24) (nI ((aslN S (a 54)) &&& (63 ^^^ 2 ^ i)))) hG7 (by omega)) (px_fitS (by omega)) rfl ⟨rfl, by decide, by decide⟩ rfl rfl (Nat.le_of_ble_eq_true rfl) (fun r9 W9 hp9 hl9 => ?_)
        obtain ⟨se2, sk2, rfl, rfl⟩ := hp9
        rw [pt_prg]
        show XG _ _ _ _ _ _ [(.int (lR (aQ a) lv (S.1 23) (S.1 24) (S.1 31) (saF (a 54) (S.1 24) (nI ((aslN S (a 54)) &&& (63 ^^^ 2 ^ i))))))] (pW pv9 pa (va_up gv1 4 (nI ((aslN S (a 54)) &&& (63 ^^^ 2 ^ i)))) ga1 ov oa se2 tv (va_up ta 22 sk2) tb nv na)
        refine XG.blk tX2_findMissed_ok 39 4 (pc' := 77) (pl' := [some (.ref 0), some (.ref 36), some (.int (nI i)), some (.int (lR (aQ a) lv (S.1 23) (S.1 24) (S.1 31) (saF (a 54) (S.1 24) (nI ((aslN S (a 54)) &&& (63 ^^^ 2 ^ i))))))]) (st' := [(.int (-1)), (.int (pv9 1))]) (W1 := (pW pv9 pa (va_up gv1 4 (nI ((aslN S (a 54)) &&& (63 ^^^ 2 ^ i)))) ga1 ov oa se2 tv (va_up ta 22 sk2) tb nv na)) (bs := []) rfl rfl rfl ?_
        refine XG.br eX2_findMissed_77 (P := (pv9 1) = (-1)) (r := []) rfl (tgt := 88) (by decide) (fun h77 => ?_) (fun h77 => ?_)
        · skip
          have q6 : ((nI i) + (nI 1)) = (nI (i + 1)) := px_eadd rfl rfl
          refine XG.blk tX2_findMissed_ok 48 7 (pc' := 101) (pl' := [some (.ref 0), some (.ref 36), some (.int ((nI i) + (nI 1))), some (.int (lR (aQ a) lv (S.1 23) (S.1 24) (S.1 31) (saF (a 54) (S.1 24) (nI ((aslN S (a 54)) &&& (63 ^^^ 2 ^ i))))))]) (st' := []) (W1 := (pW (va_up (va_up pv9 1 (nI i)) 0 (lR (aQ a) lv (S.1 23) (S.1 24) (S.1 31) (saF (a 54) (S.1 24) (nI ((aslN S (a 54)) &&& (63 ^^^ 2 ^ i)))))) pa (va_up gv1 4 (nI ((aslN S (a 54)) &&& (63 ^^^ 2 ^ i)))) ga1 ov oa se2 tv (va_up ta 22 sk2) tb nv na)) (bs := []) rfl rfl rfl ?_
          simp only [q6]
          refine XG.goto eX2_findMissed_101 (tgt := 15) (by decide) ?_
          refine XG.weak (pl' := [some (.ref 0), some (.ref 36), some (.int (nI (i + 1))), none]) ⟨rfl, rfl, rfl, trivial⟩ ?_
          refine ihi _ _ _ _ ?_
          show chS (msF (aQ a) lv (S.1 23) (S.1 24) (S.1 31) (a 54) (nI (aslN S (a 54))) i (itN (msF (aQ a) lv (S.1 23) (S.1 24) (S.1 31) (a 54) (nI (aslN S (a 54)))) ((-2), (-2)) i)) _ _
          rw [msF_eq]
          rw [if_neg h37, ms_al hA (show i < 6 by omega), if_pos (Or.inl (hM9.no.mpr h77))]; exact chS.yes (by omega) _
        · skip
          refine XG.blk tX2_findMissed_ok 44 3 (pc' := 85) (pl' := [some (.ref 0), some (.ref 36), some (.int (nI i)), some (.int (lR (aQ a) lv (S.1 23) (S.1 24) (S.1 31) (saF (a 54) (S.1 24) (nI ((aslN S (a 54)) &&& (63 ^^^ 2 ^ i))))))]) (st' := [(.int (pv9 0)), (.int (lR (aQ a) lv (S.1 23) (S.1 24) (S.1 31) (saF (a 54) (S.1 24) (nI ((aslN S (a 54)) &&& (63 ^^^ 2 ^ i))))))]) (W1 := (pW pv9 pa (va_up gv1 4 (nI ((aslN S (a 54)) &&& (63 ^^^ 2 ^ i)))) ga1 ov oa se2 tv (va_up ta 22 sk2) tb nv na)) (bs := []) rfl rfl rfl ?_
          refine XG.br eX2_findMissed_85 (P := (pv9 0) ≤ (lR (aQ a) lv (S.1 23) (S.1 24) (S.1 31) (saF (a 54) (S.1 24) (nI ((aslN S (a 54)) &&& (63 ^^^ 2 ^ i)))))) (r := []) rfl (tgt := 98) (by decide) (fun h85 => ?_) (fun h85 => ?_)
          · skip
            have q7 : ((nI i) + (nI 1)) = (nI (i + 1)) := px_eadd rfl rfl
            refine XG.blk tX2_findMissed_ok 54 1 (pc' := 101) (pl' := [some (.ref 0), some (.ref 36), some (.int ((nI i) + (nI 1))), some (.int (lR (aQ a) lv (S.1 23) (S.1 24) (S.1 31) (saF (a 54) (S.1 24) (nI ((aslN S (a 54)) &&& (63 ^^^ 2 ^ i))))))]) (st' := []) (W1 := (pW pv9 pa (va_up gv1 4 (nI ((aslN S (a 54)) &&& (63 ^^^ 2 ^ i)))) ga1 ov oa se2 tv (va_up ta 22 sk2) tb nv na)) (bs := []) rfl rfl rfl ?_
            simp only [q7]
            refine XG.goto eX2_findMissed_101 (tgt := 15) (by decide) ?_
            refine XG.weak (pl' := [some (.ref 0), some (.ref 36), some (.int (nI (i + 1))), none]) ⟨rfl, rfl, rfl, trivial⟩ ?_
            refine ihi _ _ _ _ ?_
            show chS (msF (aQ a) lv (S.1 23) (S.1 24) (S.1 31) (a 54) (nI (aslN S (a 54))) i (itN (msF (aQ a) lv (S.1 23) (S.1 24) (S.1 31) (a 54) (nI (aslN S (a 54)))) ((-2), (-2)) i)) _ _
            rw [msF_eq]
            rw [if_neg h37, ms_al hA (show i < 6 by omega), if_neg (fun z => z.elim (fun n => h77 (hM9.no.mp n)) (fun n => absurd n (Int32.not_lt.mpr (by rw [← (hM9.2 (fun n => h77 (hM9.no.mp n))).2]; exact h85))))]; exact hM9
          · skip
            have q8 : ((nI i) + (nI 1)) = (nI (i + 1)) := px_eadd rfl rfl
            refine XG.blk tX2_findMissed_ok 48 7 (pc' := 101) (pl' := [some (.ref 0), some (.ref 36), some (.int ((nI i) + (nI 1))), some (.int (lR (aQ a) lv (S.1 23) (S.1 24) (S.1 31) (saF (a 54) (S.1 24) (nI ((aslN S (a 54)) &&& (63 ^^^ 2 ^ i))))))]) (st' := []) (W1 := (pW (va_up (va_up pv9 1 (nI i)) 0 (lR (aQ a) lv (S.1 23) (S.1 24) (S.1 31) (saF (a 54) (S.1 24) (nI ((aslN S (a 54)) &&& (63 ^^^ 2 ^ i)))))) pa (va_up gv1 4 (nI ((aslN S (a 54)) &&& (63 ^^^ 2 ^ i)))) ga1 ov oa se2 tv (va_up ta 22 sk2) tb nv na)) (bs := []) rfl rfl rfl ?_
            simp only [q8]
            refine XG.goto eX2_findMissed_101 (tgt := 15) (by decide) ?_
            refine XG.weak (pl' := [some (.ref 0), some (.ref 36), some (.int (nI (i + 1))), none]) ⟨rfl, rfl, rfl, trivial⟩ ?_
            refine ihi _ _ _ _ ?_
            show chS (msF (aQ a) lv (S.1 23) (S.1 24) (S.1 31) (a 54) (nI (aslN S (a 54))) i (itN (msF (aQ a) lv (S.1 23) (S.1 24) (S.1 31) (a 54) (nI (aslN S (a 54)))) ((-2), (-2)) i)) _ _
            rw [msF_eq]
            rw [if_neg h37, ms_al hA (show i < 6 by omega), if_pos (Or.inr (by rw [← (hM9.2 (fun n => h77 (hM9.no.mp n))).2]; exact Int32.not_le.mp h85))]; exact chS.yes (by omega) _
      · skip
        have h37 := Decidable.not_not.mp h37
        refine XG.goto eX2_findMissed_40 (tgt := 98) (by decide) ?_
        have q9 : ((nI i) + (nI 1)) = (nI (i + 1)) := px_eadd rfl rfl
        refine XG.blk tX2_findMissed_ok 54 1 (pc' := 101) (pl' := [some (.ref 0), some (.ref 36), some (.int ((nI i) + (nI 1))), none]) (st' := []) (W1 := (pW pv9 pa (va_up gv1 4 x9) ga1 ov oa se9 tv (va_up ta 22 sk9) tb nv na)) (bs := []) rfl rfl rfl ?_
        simp only [q9]
        refine XG.goto eX2_findMissed_101 (tgt := 15) (by decide) ?_
        refine XG.weak (pl' := [some (.ref 0), some (.ref 36), some (.int (nI (i + 1))), none]) ⟨rfl, rfl, rfl, trivial⟩ ?_
        refine ihi _ _ _ _ ?_
        show chS (msF (aQ a) lv (S.1 23) (S.1 24) (S.1 31) (a 54) (nI (aslN S (a 54))) i (itN (msF (aQ a) lv (S.1 23) (S.1 24) (S.1 31) (a 54) (nI (aslN S (a 54)))) ((-2), (-2)) i)) _ _
        rw [msF_eq]
        rw [if_pos h37]; exact hM9
