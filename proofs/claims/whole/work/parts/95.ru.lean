/-! the class: what a law looks at, what is held and borne -/
theorem CX.sk {S : SD} {lv : Nat} {a : Nat → Nat → Int32} {tv : Nat → Int32} {ta : Nat → Nat → Int32} {sk : Nat → Int32} (h : CX S lv a tv ta) : CX S lv a tv (va_up ta 22 sk) := h
theorem bitZ : ∀ m : Fin 64, ∀ j : Fin 6, ((nI m.val >>> (nI j.val &&& 31)) &&& nI 1 = 0) ↔ m.val.testBit j.val = false := by decide +kernel
theorem bitZ' {m j : Nat} (hm : m < 64) (hj : j < 6) : ((nI m >>> (nI j &&& 31)) &&& nI 1 = 0) ↔ m.testBit j = false := bitZ ⟨m, hm⟩ ⟨j, hj⟩
def LKs (S : SD) (lv : Nat) (a : Nat → Nat → Int32) (R : Nat → Int32) (p b : Int32) (i : Nat) (se : Nat → Int32) : Prop := se 2 = R 28 ∧ se 5 = p ∧ se 6 = b ∧ se 3 = itN (noiseF R (a 33) lv) 0 i ∧ se 7 = itN (loadF R (a 32) lv p) 0 i
def LK (S : SD) (lv : Nat) (a : Nat → Nat → Int32) (R : Nat → Int32) (p b : Int32) (x : Nat) (se : Nat → Int32) : Prop := ∀ j, j < 9 → se j = seF S lv a R p b x j
section LKS
variable {S : SD} {lv : Nat} {a : Nat → Nat → Int32} {R : Nat → Int32} {p b : Int32} {x : Nat} {se : Nat → Int32}
theorem LK.s (h : LK S lv a R p b x se) : LKs S lv a R p b (S.1 31) se := ⟨h 2 (by decide), h 5 (by decide), h 6 (by decide), h 3 (by decide), h 7 (by decide)⟩
theorem LKs.at (h : LKs S lv a R p b (S.1 31) se) (e0 : se 0 = R x) (e1 : se 1 = a 26 (6 * lv + x)) (e4 : se 4 = nI x) (e8 : se 8 = a 27 (6 * lv + x)) : LK S lv a R p b x se := by
  intro j hj
  match j, hj with
  | 0, _ => exact e0
  | 1, _ => exact e1
  | 2, _ => exact h.1
  | 3, _ => exact h.2.2.2.1
  | 4, _ => exact e4
  | 5, _ => exact h.2.1
  | 6, _ => exact h.2.2.1
  | 7, _ => exact h.2.2.2.2
  | 8, _ => exact e8
end LKS
abbrev hR (a : Nat → Nat → Int32) (lv sl cr : Nat) (R : Nat → Int32) (x : Nat) : Int32 := hN (va_up a 55 R) lv sl cr x
def bN (S : SD) (R : Nat → Int32) (x : Nat) : Int32 := nI (pcN (mOn S R (R (12 + x))) 6 - 1)
theorem on_self {S : SD} {R : Nat → Int32} {x : Nat} (hx : x < S.1 24) (h : slp R (nI (S.1 35)) x) : (mOn S R (R (12 + x))).testBit x = true := by rw [mOn_bit]; unfold onB slpB; simp [hx, h]
theorem ask_b {S : SD} {lv : Nat} {a : Nat → Nat → Int32} (hT : TxR S lv a) (hs : shpS S) (hlv : lv < 2) (R : Nat → Int32) {k : Nat} (hk : k < 3) {x : Nat} (hx : x < S.1 24) (h : slp R (nI (S.1 35)) x) (lo hi : Int32) : askV (va_up a 55 R) lv (S.1 24) (S.1 31) k x (plV R k x) lo hi = aV S lv a R k (R (12 + x)) (bN S R x) x lo hi := by
  rw [ask_aV hT hs hlv R hk, bs_pc hs.1 (on_self hx h)]; rfl
theorem hN_b {S : SD} {lv : Nat} {a : Nat → Nat → Int32} (hT : TxR S lv a) (hs : shpS S) (hlv : lv < 2) (R : Nat → Int32) {x : Nat} (hx : x < S.1 24) : hR a lv (S.1 24) (S.1 31) R x = if slp R (nI (S.1 35)) x then aV S lv a R 0 (R (12 + x)) (bN S R x) x (nI 0) (nI 99) else 0 := by
  unfold hR hN
  rw [show va_up a 55 R 35 lv = nI (S.1 35) from (hT.u55 R).1 35 (by decide), show va_up a 55 R 55 = R from va_up_self _ _ _]
  by_cases h : slp R (nI (S.1 35)) x
  · rw [if_pos h, if_pos h]; exact ask_b hT hs hlv R (by decide) hx h _ _
  · rw [if_neg h, if_neg h]
theorem pc_pos {S : SD} {R : Nat → Int32} (hsl : S.1 24 ≤ 6) {x : Nat} (hx : x < S.1 24) (h : slp R (nI (S.1 35)) x) : 1 ≤ pcN (mOn S R (R (12 + x))) 6 := by
  rw [pcN_cB]; exact cB_pos (on_self hx h) 6 (by omega)
theorem pc_pos2 : ∀ m : Fin 64, m.val ≠ 0 → 1 ≤ pcN m.val 6 := by decide +kernel
theorem asl_bit {S : SD} {R : Nat → Int32} {x : Nat} (hx : x < S.1 24) : (mkN (slpB R (nI (S.1 35))) (S.1 24)).testBit x = true ↔ slp R (nI (S.1 35)) x := by rw [mkN_bit]; unfold slpB; simp [hx]
theorem asl_bitF {S : SD} {R : Nat → Int32} {x : Nat} (hx : x < S.1 24) : (mkN (slpB R (nI (S.1 35))) (S.1 24)).testBit x = false ↔ ¬ slp R (nI (S.1 35)) x := by rw [mkN_bit]; unfold slpB; simp [hx]
theorem dr_prC {S : SD} {lv : Nat} {a : Nat → Nat → Int32} (hT : TxR S lv a) (hs : shpS S) (hr : rngS S) (R : Nat → Int32) (p : Int32) : itN (drO R (nI (S.1 35)) (a 29) lv p) 0 (S.1 24) = nI (prC S.2.2.2.1 (mOn S R p) (S.1 30)) := by
  have hp := prC_cB2 hs.1 (mOn_64 (R := R) (p := p) hs.1) hr.2.2.2.2.2.2.1 hr.2.2.2.2.2.2.2 _ (Nat.le_refl _)
  rw [List.take_length, hs.2.2.2.1] at hp
  rw [dr_cB2 hT hs.1, hp]
set_option maxHeartbeats 400000 in
theorem cc_lookAtSpan (d : Nat) (se : Nat → Int32) (tv : Nat → Int32) (ta : Nat → Nat → Int32) (tb : Nat → Nat → Int64) (nv : Nat → Int32) (na : Nat → Nat → Int32) (S : SD) (lv : Nat) (a : Nat → Nat → Int32) (hX : CX S lv a tv ta) (R : Nat → Int32) (hN : CNt S R nv na) (p b : Int32) : Con mX4_lookAtSpan d [.ref 0, .ref 17, .int p, .int b] (rW se tv ta tb nv na) (fun r W' => ∃ se', W' = rW se' tv ta tb nv na ∧ LKs S lv a R p b (S.1 31) se' ∧ r = none) := by
  obtain ⟨hcr, hcr2⟩ := hX.cr
  obtain ⟨hsl, hsl2⟩ := hX.sl
  obtain ⟨hsp, hsp1, hsp2⟩ := hX.sp
  have hWh := hN.2.2.2.2.2.2
  refine Con.of (by decide) (Nat.le_of_ble_eq_true rfl) ?_
  have q1 : (nv 0) = (R 28) := hN.1
  have q2 : (nI 2).toNatClampNeg = 2 := nI_clamp (by omega)
  have q3 : (nI 5).toNatClampNeg = 5 := nI_clamp (by omega)
  have q4 : (nI 6).toNatClampNeg = 6 := nI_clamp (by omega)
  have q5 : (nI 3).toNatClampNeg = 3 := nI_clamp (by omega)
  have q6 : (nI 7).toNatClampNeg = 7 := nI_clamp (by omega)
  refine XG.blk tX4_lookAtSpan_ok 0 28 (pc' := 43) (pl' := [some (.ref 0), some (.ref 17), some (.int p), some (.int b), some (.int (nI 0)), none]) (st' := []) (W1 := (rW (upd (upd (upd (upd (upd se (nI 2).toNatClampNeg (nv 0)) (nI 5).toNatClampNeg p) (nI 6).toNatClampNeg b) (nI 3).toNatClampNeg (nI 0)) (nI 7).toNatClampNeg (nI 0)) tv ta tb nv na)) (bs := [px_vb (nI 2) 16, px_vb (nI 5) 16, px_vb (nI 6) 16, px_vb (nI 3) 16, px_vb (nI 7) 16]) rfl rfl (by (try simp only [q1, q2, q3, q4, q5, q6]); exact (px_all (px_vbN (by omega) (by decide)) (px_all (px_vbN (by omega) (by decide)) (px_all (px_vbN (by omega) (by decide)) (px_all (px_vbN (by omega) (by decide)) (px_all (px_vbN (by omega) (by decide)) rfl)))))) ?_
  simp only [q1, q2, q3, q4, q5, q6]
  refine px_for (S.1 31) (fun i => ∀ (se1 : Nat → Int32) (_ : LKs S lv a R p b i se1), XG mX4_lookAtSpan _ 0 0 43 [some (.ref 0), some (.ref 17), some (.int p), some (.int b), some (.int (nI i)), none] [] (rW se1 tv ta tb nv na)) ?_ ?_ 0 (Nat.zero_le _) _ ⟨rfl, rfl, rfl, rfl, rfl⟩
  · intro se1 hs
    have q7 : (tv 3) = (nI (S.1 31)) := hcr
    refine XG.blk tX4_lookAtSpan_ok 28 4 (pc' := 52) (pl' := [some (.ref 0), some (.ref 17), some (.int p), some (.int b), some (.int (nI (S.1 31))), none]) (st' := [(.int (tv 3)), (.int (nI (S.1 31)))]) (W1 := (rW se1 tv ta tb nv na)) (bs := []) rfl rfl rfl ?_
    simp only [q7]
    refine XG.br eX4_lookAtSpan_52 (P := (nI (S.1 31)) ≤ (nI (S.1 31))) (r := []) rfl (tgt := 134) (by decide) (fun h52 => ?_) (fun h52 => ?_)
    · skip
      have g52 : (S.1 31) ≤ (S.1 31) := (nI_leI (a := (S.1 31)) (b := (S.1 31)) (by omega) (by omega)).mp h52
      refine XS.vret eX4_lookAtSpan_134 rfl ?_
      exact ⟨_, rfl, hs, rfl⟩
    · exfalso
      have g52 : ¬ (S.1 31) ≤ (S.1 31) := (fun z => h52 ((nI_leI (a := (S.1 31)) (b := (S.1 31)) (by omega) (by omega)).mpr z))
      omega
  · intro i hi ihi se1 hs
    have q8 : (tv 3) = (nI (S.1 31)) := hcr
    refine XG.blk tX4_lookAtSpan_ok 28 4 (pc' := 52) (pl' := [some (.ref 0), some (.ref 17), some (.int p), some (.int b), some (.int (nI i)), none]) (st' := [(.int (tv 3)), (.int (nI i))]) (W1 := (rW se1 tv ta tb nv na)) (bs := []) rfl rfl rfl ?_
    simp only [q8]
    refine XG.br eX4_lookAtSpan_52 (P := (nI (S.1 31)) ≤ (nI i)) (r := []) rfl (tgt := 134) (by decide) (fun h52 => ?_) (fun h52 => ?_)
    · exfalso
      have g52 : (S.1 31) ≤ i := (nI_leI (a := (S.1 31)) (b := i) (by omega) (by omega)).mp h52
      omega
    · skip
      have g52 : ¬ (S.1 31) ≤ i := (fun z => h52 ((nI_leI (a := (S.1 31)) (b := i) (by omega) (by omega)).mpr z))
      have q9 : (nI i).toNatClampNeg = i := nI_clamp (by omega)
      have q10 : ((na 7) i) = (R (18 + i)) := (hWh i (by omega)).1
      have q11 : (nI 3).toNatClampNeg = 3 := nI_clamp (by omega)
      have q12 : (se1 3) = (itN (noiseF R (a 33) lv) 0 i) := hs.2.2.2.1
      refine XG.blk tX4_lookAtSpan_ok 33 11 (pc' := 73) (pl' := [some (.ref 0), some (.ref 17), some (.int p), some (.int b), some (.int (nI i)), some (.int ((na 7) (nI i).toNatClampNeg))]) (st' := [(.int ((na 7) (nI i).toNatClampNeg)), (.int (se1 (nI 3).toNatClampNeg)), (.int (nI 3)), (.ref 1)]) (W1 := (rW se1 tv ta tb nv na)) (bs := [px_vb (nI i) 5, px_vb (nI 3) 16]) rfl rfl (by (try simp only [q9, q10, q11, q12]); exact (px_all (px_vbN (by omega) (by decide)) (px_all (px_vbN (by omega) (by decide)) rfl))) ?_
      simp only [q9, q10, q11, q12]
      refine XG.br eX4_lookAtSpan_73 (P := (R (18 + i)) < 0) (r := [(.int (itN (noiseF R (a 33) lv) 0 i)), (.int (nI 3)), (.ref 1)]) rfl (tgt := 95) (by decide) (fun h73 => ?_) (fun h73 => ?_)
      · skip
        have q13 : (nI 3).toNatClampNeg = 3 := nI_clamp (by omega)
        have q14 : (nI 7).toNatClampNeg = 7 := nI_clamp (by omega)
        have q15 : ((upd se1 3 ((itN (noiseF R (a 33) lv) 0 i) + (nI 0))) 7) = (se1 7) := rfl
        have q16 : (se1 7) = (itN (loadF R (a 32) lv p) 0 i) := hs.2.2.2.2
        refine XG.blk tX4_lookAtSpan_ok 54 10 (pc' := 109) (pl' := [some (.ref 0), some (.ref 17), some (.int p), some (.int b), some (.int (nI i)), some (.int (R (18 + i)))]) (st' := [(.int p), (.int (R (18 + i))), (.int ((upd se1 (nI 3).toNatClampNeg ((itN (noiseF R (a 33) lv) 0 i) + (nI 0))) (nI 7).toNatClampNeg)), (.int (nI 7)), (.ref 1)]) (W1 := (rW (upd se1 (nI 3).toNatClampNeg ((itN (noiseF R (a 33) lv) 0 i) + (nI 0))) tv ta tb nv na)) (bs := [px_vb (nI 3) 16, px_vb (nI 7) 16]) rfl rfl (by (try simp only [q13, q14, q15, q16]); exact (px_all (px_vbN (by omega) (by decide)) (px_all (px_vbN (by omega) (by decide)) rfl))) ?_
        simp only [q13, q14, q15, q16]
        refine XG.br eX4_lookAtSpan_109 (P := ¬ (R (18 + i)) = p) (r := [(.int (itN (loadF R (a 32) lv p) 0 i)), (.int (nI 7)), (.ref 1)]) rfl (tgt := 125) (by decide) (fun h109 => ?_) (fun h109 => ?_)
        · skip
          have q17 : (nI 7).toNatClampNeg = 7 := nI_clamp (by omega)
          have q18 : ((nI i) + (nI 1)) = (nI (i + 1)) := px_eadd rfl rfl
          refine XG.blk tX4_lookAtSpan_ok 71 4 (pc' := 131) (pl' := [some (.ref 0), some (.ref 17), some (.int p), some (.int b), some (.int ((nI i) + (nI 1))), some (.int (R (18 + i)))]) (st' := []) (W1 := (rW (upd (upd se1 3 ((itN (noiseF R (a 33) lv) 0 i) + (nI 0))) (nI 7).toNatClampNeg ((itN (loadF R (a 32) lv p) 0 i) + (nI 0))) tv ta tb nv na)) (bs := [px_vb (nI 7) 16]) rfl rfl (by (try simp only [q17, q18]); exact (px_all (px_vbN (by omega) (by decide)) rfl)) ?_
          simp only [q17, q18]
          refine XG.goto eX4_lookAtSpan_131 (tgt := 43) (by decide) ?_
          refine XG.weak (pl' := [some (.ref 0), some (.ref 17), some (.int p), some (.int b), some (.int (nI (i + 1))), none]) ⟨rfl, rfl, rfl, rfl, rfl, trivial⟩ ?_
          refine ihi _ ⟨hs.1, hs.2.1, hs.2.2.1, ?_, ?_⟩
          · exact (((if_neg (fun z => (in04.mp z).1 h73)).trans (Int32.add_zero _).symm).symm)
          · exact (((if_neg h109).trans (Int32.add_zero _).symm).symm)
        · skip
          have h109 := Decidable.not_not.mp h109
          have q19 : (nI i).toNatClampNeg = i := nI_clamp (by omega)
          have q20 : ((ta 14) i) = (a 32 (5 * lv + i)) := (hX.cro (by omega)).1
          refine XG.blk tX4_lookAtSpan_ok 65 5 (pc' := 122) (pl' := [some (.ref 0), some (.ref 17), some (.int p), some (.int b), some (.int (nI i)), some (.int (R (18 + i)))]) (st' := [(.int ((ta 14) (nI i).toNatClampNeg)), (.int (itN (loadF R (a 32) lv p) 0 i)), (.int (nI 7)), (.ref 1)]) (W1 := (rW (upd se1 3 ((itN (noiseF R (a 33) lv) 0 i) + (nI 0))) tv ta tb nv na)) (bs := [px_vb (nI i) 5]) rfl rfl (by (try simp only [q19, q20]); exact (px_all (px_vbN (by omega) (by decide)) rfl)) ?_
          simp only [q19, q20]
          refine XG.goto eX4_lookAtSpan_122 (tgt := 126) (by decide) ?_
          have q21 : (nI 7).toNatClampNeg = 7 := nI_clamp (by omega)
          have q22 : ((nI i) + (nI 1)) = (nI (i + 1)) := px_eadd rfl rfl
          refine XG.blk tX4_lookAtSpan_ok 72 3 (pc' := 131) (pl' := [some (.ref 0), some (.ref 17), some (.int p), some (.int b), some (.int ((nI i) + (nI 1))), some (.int (R (18 + i)))]) (st' := []) (W1 := (rW (upd (upd se1 3 ((itN (noiseF R (a 33) lv) 0 i) + (nI 0))) (nI 7).toNatClampNeg ((itN (loadF R (a 32) lv p) 0 i) + (a 32 (5 * lv + i)))) tv ta tb nv na)) (bs := [px_vb (nI 7) 16]) rfl rfl (by (try simp only [q21, q22]); exact (px_all (px_vbN (by omega) (by decide)) rfl)) ?_
          simp only [q21, q22]
          refine XG.goto eX4_lookAtSpan_131 (tgt := 43) (by decide) ?_
          refine XG.weak (pl' := [some (.ref 0), some (.ref 17), some (.int p), some (.int b), some (.int (nI (i + 1))), none]) ⟨rfl, rfl, rfl, rfl, rfl, trivial⟩ ?_
          refine ihi _ ⟨hs.1, hs.2.1, hs.2.2.1, ?_, ?_⟩
          · exact (((if_neg (fun z => (in04.mp z).1 h73)).trans (Int32.add_zero _).symm).symm)
          · exact ((if_pos h109).symm)
      · skip
        refine XG.blk tX4_lookAtSpan_ok 45 2 (pc' := 79) (pl' := [some (.ref 0), some (.ref 17), some (.int p), some (.int b), some (.int (nI i)), some (.int (R (18 + i)))]) (st' := [(.int (nI 5)), (.int (R (18 + i))), (.int (itN (noiseF R (a 33) lv) 0 i)), (.int (nI 3)), (.ref 1)]) (W1 := (rW se1 tv ta tb nv na)) (bs := []) rfl rfl rfl ?_
        refine XG.br eX4_lookAtSpan_79 (P := (nI 5) ≤ (R (18 + i))) (r := [(.int (itN (noiseF R (a 33) lv) 0 i)), (.int (nI 3)), (.ref 1)]) rfl (tgt := 95) (by decide) (fun h79 => ?_) (fun h79 => ?_)
        · skip
          have q23 : (nI 3).toNatClampNeg = 3 := nI_clamp (by omega)
          have q24 : (nI 7).toNatClampNeg = 7 := nI_clamp (by omega)
          have q25 : ((upd se1 3 ((itN (noiseF R (a 33) lv) 0 i) + (nI 0))) 7) = (se1 7) := rfl
          have q26 : (se1 7) = (itN (loadF R (a 32) lv p) 0 i) := hs.2.2.2.2
          refine XG.blk tX4_lookAtSpan_ok 54 10 (pc' := 109) (pl' := [some (.ref 0), some (.ref 17), some (.int p), some (.int b), some (.int (nI i)), some (.int (R (18 + i)))]) (st' := [(.int p), (.int (R (18 + i))), (.int ((upd se1 (nI 3).toNatClampNeg ((itN (noiseF R (a 33) lv) 0 i) + (nI 0))) (nI 7).toNatClampNeg)), (.int (nI 7)), (.ref 1)]) (W1 := (rW (upd se1 (nI 3).toNatClampNeg ((itN (noiseF R (a 33) lv) 0 i) + (nI 0))) tv ta tb nv na)) (bs := [px_vb (nI 3) 16, px_vb (nI 7) 16]) rfl rfl (by (try simp only [q23, q24, q25, q26]); exact (px_all (px_vbN (by omega) (by decide)) (px_all (px_vbN (by omega) (by decide)) rfl))) ?_
          simp only [q23, q24, q25, q26]
          refine XG.br eX4_lookAtSpan_109 (P := ¬ (R (18 + i)) = p) (r := [(.int (itN (loadF R (a 32) lv p) 0 i)), (.int (nI 7)), (.ref 1)]) rfl (tgt := 125) (by decide) (fun h109 => ?_) (fun h109 => ?_)
          · skip
            have q27 : (nI 7).toNatClampNeg = 7 := nI_clamp (by omega)
            have q28 : ((nI i) + (nI 1)) = (nI (i + 1)) := px_eadd rfl rfl
            refine XG.blk tX4_lookAtSpan_ok 71 4 (pc' := 131) (pl' := [some (.ref 0), some (.ref 17), some (.int p), some (.int b), some (.int ((nI i) + (nI 1))), some (.int (R (18 + i)))]) (st' := []) (W1 := (rW (upd (upd se1 3 ((itN (noiseF R (a 33) lv) 0 i) + (nI 0))) (nI 7).toNatClampNeg ((itN (loadF R (a 32) lv p) 0 i) + (nI 0))) tv ta tb nv na)) (bs := [px_vb (nI 7) 16]) rfl rfl (by (try simp only [q27, q28]); exact (px_all (px_vbN (by omega) (by decide)) rfl)) ?_
            simp only [q27, q28]
            refine XG.goto eX4_lookAtSpan_131 (tgt := 43) (by decide) ?_
            refine XG.weak (pl' := [some (.ref 0), some (.ref 17), some (.int p), some (.int b), some (.int (nI (i + 1))), none]) ⟨rfl, rfl, rfl, rfl, rfl, trivial⟩ ?_
            refine ihi _ ⟨hs.1, hs.2.1, hs.2.2.1, ?_, ?_⟩
            · exact (((if_neg (fun z => (in04.mp z).2 h79)).trans (Int32.add_zero _).symm).symm)
            · exact (((if_neg h109).trans (Int32.add_zero _).symm).symm)
          · skip
            have h109 := Decidable.not_not.mp h109
            have q29 : (nI i).toNatClampNeg = i := nI_clamp (by omega)
            have q30 : ((ta 14) i) = (a 32 (5 * lv + i)) := (hX.cro (by omega)).1
            refine XG.blk tX4_lookAtSpan_ok 65 5 (pc' := 122) (pl' := [some (.ref 0), some (.ref 17), some (.int p), some (.int b), some (.int (nI i)), some (.int (R (18 + i)))]) (st' := [(.int ((ta 14) (nI i).toNatClampNeg)), (.int (itN (loadF R (a 32) lv p) 0 i)), (.int (nI 7)), (.ref 1)]) (W1 := (rW (upd se1 3 ((itN (noiseF R (a 33) lv) 0 i) + (nI 0))) tv ta tb nv na)) (bs := [px_vb (nI i) 5]) rfl rfl (by (try simp only [q29, q30]); exact (px_all (px_vbN (by omega) (by decide)) rfl)) ?_
            simp only [q29, q30]
            refine XG.goto eX4_lookAtSpan_122 (tgt := 126) (by decide) ?_
            have q31 : (nI 7).toNatClampNeg = 7 := nI_clamp (by omega)
            have q32 : ((nI i) + (nI 1)) = (nI (i + 1)) := px_eadd rfl rfl
            refine XG.blk tX4_lookAtSpan_ok 72 3 (pc' := 131) (pl' := [some (.ref 0), some (.ref 17), some (.int p), some (.int b), some (.int ((nI i) + (nI 1))), some (.int (R (18 + i)))]) (st' := []) (W1 := (rW (upd (upd se1 3 ((itN (noiseF R (a 33) lv) 0 i) + (nI 0))) (nI 7).toNatClampNeg ((itN (loadF R (a 32) lv p) 0 i) + (a 32 (5 * lv + i)))) tv ta tb nv na)) (bs := [px_vb (nI 7) 16]) rfl rfl (by (try simp only [q31, q32]); exact (px_all (px_vbN (by omega) (by decide)) rfl)) ?_
            simp only [q31, q32]
            refine XG.goto eX4_lookAtSpan_131 (tgt := 43) (by decide) ?_
            refine XG.weak (pl' := [some (.ref 0), some (.ref 17), some (.int p), some (.int b), some (.int (nI (i + 1))), none]) ⟨rfl, rfl, rfl, rfl, rfl, trivial⟩ ?_
            refine ihi _ ⟨hs.1, hs.2.1, hs.2.2.1, ?_, ?_⟩
            · exact (((if_neg (fun z => (in04.mp z).2 h79)).trans (Int32.add_zero _).symm).symm)
            · exact ((if_pos h109).symm)
        · skip
          have q33 : (nI i).toNatClampNeg = i := nI_clamp (by omega)
          have q34 : ((ta 15) i) = (a 33 (5 * lv + i)) := (hX.cro (by omega)).2.1
          refine XG.blk tX4_lookAtSpan_ok 48 5 (pc' := 92) (pl' := [some (.ref 0), some (.ref 17), some (.int p), some (.int b), some (.int (nI i)), some (.int (R (18 + i)))]) (st' := [(.int ((ta 15) (nI i).toNatClampNeg)), (.int (itN (noiseF R (a 33) lv) 0 i)), (.int (nI 3)), (.ref 1)]) (W1 := (rW se1 tv ta tb nv na)) (bs := [px_vb (nI i) 5]) rfl rfl (by (try simp only [q33, q34]); exact (px_all (px_vbN (by omega) (by decide)) rfl)) ?_
          simp only [q33, q34]
          refine XG.goto eX4_lookAtSpan_92 (tgt := 96) (by decide) ?_
          have q35 : (nI 3).toNatClampNeg = 3 := nI_clamp (by omega)
          have q36 : (nI 7).toNatClampNeg = 7 := nI_clamp (by omega)
          have q37 : ((upd se1 3 ((itN (noiseF R (a 33) lv) 0 i) + (a 33 (5 * lv + i)))) 7) = (se1 7) := rfl
          have q38 : (se1 7) = (itN (loadF R (a 32) lv p) 0 i) := hs.2.2.2.2
          refine XG.blk tX4_lookAtSpan_ok 55 9 (pc' := 109) (pl' := [some (.ref 0), some (.ref 17), some (.int p), some (.int b), some (.int (nI i)), some (.int (R (18 + i)))]) (st' := [(.int p), (.int (R (18 + i))), (.int ((upd se1 (nI 3).toNatClampNeg ((itN (noiseF R (a 33) lv) 0 i) + (a 33 (5 * lv + i)))) (nI 7).toNatClampNeg)), (.int (nI 7)), (.ref 1)]) (W1 := (rW (upd se1 (nI 3).toNatClampNeg ((itN (noiseF R (a 33) lv) 0 i) + (a 33 (5 * lv + i)))) tv ta tb nv na)) (bs := [px_vb (nI 3) 16, px_vb (nI 7) 16]) rfl rfl (by (try simp only [q35, q36, q37, q38]); exact (px_all (px_vbN (by omega) (by decide)) (px_all (px_vbN (by omega) (by decide)) rfl))) ?_
          simp only [q35, q36, q37, q38]
          refine XG.br eX4_lookAtSpan_109 (P := ¬ (R (18 + i)) = p) (r := [(.int (itN (loadF R (a 32) lv p) 0 i)), (.int (nI 7)), (.ref 1)]) rfl (tgt := 125) (by decide) (fun h109 => ?_) (fun h109 => ?_)
          · skip
            have q39 : (nI 7).toNatClampNeg = 7 := nI_clamp (by omega)
            have q40 : ((nI i) + (nI 1)) = (nI (i + 1)) := px_eadd rfl rfl
            refine XG.blk tX4_lookAtSpan_ok 71 4 (pc' := 131) (pl' := [some (.ref 0), some (.ref 17), some (.int p), some (.int b), some (.int ((nI i) + (nI 1))), some (.int (R (18 + i)))]) (st' := []) (W1 := (rW (upd (upd se1 3 ((itN (noiseF R (a 33) lv) 0 i) + (a 33 (5 * lv + i)))) (nI 7).toNatClampNeg ((itN (loadF R (a 32) lv p) 0 i) + (nI 0))) tv ta tb nv na)) (bs := [px_vb (nI 7) 16]) rfl rfl (by (try simp only [q39, q40]); exact (px_all (px_vbN (by omega) (by decide)) rfl)) ?_
            simp only [q39, q40]
            refine XG.goto eX4_lookAtSpan_131 (tgt := 43) (by decide) ?_
            refine XG.weak (pl' := [some (.ref 0), some (.ref 17), some (.int p), some (.int b), some (.int (nI (i + 1))), none]) ⟨rfl, rfl, rfl, rfl, rfl, trivial⟩ ?_
            refine ihi _ ⟨hs.1, hs.2.1, hs.2.2.1, ?_, ?_⟩
            · exact ((if_pos (in04.mpr ⟨h73, h79⟩)).symm)
            · exact (((if_neg h109).trans (Int32.add_zero _).symm).symm)
          · skip
            have h109 := Decidable.not_not.mp h109
            have q41 : (nI i).toNatClampNeg = i := nI_clamp (by omega)
            have q42 : ((ta 14) i) = (a 32 (5 * lv + i)) := (hX.cro (by omega)).1
            refine XG.blk tX4_lookAtSpan_ok 65 5 (pc' := 122) (pl' := [some (.ref 0), some (.ref 17), some (.int p), some (.int b), some (.int (nI i)), some (.int (R (18 + i)))]) (st' := [(.int ((ta 14) (nI i).toNatClampNeg)), (.int (itN (loadF R (a 32) lv p) 0 i)), (.int (nI 7)), (.ref 1)]) (W1 := (rW (upd se1 3 ((itN (noiseF R (a 33) lv) 0 i) + (a 33 (5 * lv + i)))) tv ta tb nv na)) (bs := [px_vb (nI i) 5]) rfl rfl (by (try simp only [q41, q42]); exact (px_all (px_vbN (by omega) (by decide)) rfl)) ?_
            simp only [q41, q42]
            refine XG.goto eX4_lookAtSpan_122 (tgt := 126) (by decide) ?_
            have q43 : (nI 7).toNatClampNeg = 7 := nI_clamp (by omega)
            have q44 : ((nI i) + (nI 1)) = (nI (i + 1)) := px_eadd rfl rfl
            refine XG.blk tX4_lookAtSpan_ok 72 3 (pc' := 131) (pl' := [some (.ref 0), some (.ref 17), some (.int p), some (.int b), some (.int ((nI i) + (nI 1))), some (.int (R (18 + i)))]) (st' := []) (W1 := (rW (upd (upd se1 3 ((itN (noiseF R (a 33) lv) 0 i) + (a 33 (5 * lv + i)))) (nI 7).toNatClampNeg ((itN (loadF R (a 32) lv p) 0 i) + (a 32 (5 * lv + i)))) tv ta tb nv na)) (bs := [px_vb (nI 7) 16]) rfl rfl (by (try simp only [q43, q44]); exact (px_all (px_vbN (by omega) (by decide)) rfl)) ?_
            simp only [q43, q44]
            refine XG.goto eX4_lookAtSpan_131 (tgt := 43) (by decide) ?_
            refine XG.weak (pl' := [some (.ref 0), some (.ref 17), some (.int p), some (.int b), some (.int (nI (i + 1))), none]) ⟨rfl, rfl, rfl, rfl, rfl, trivial⟩ ?_
            refine ihi _ ⟨hs.1, hs.2.1, hs.2.2.1, ?_, ?_⟩
            · exact ((if_pos (in04.mpr ⟨h73, h79⟩)).symm)
            · exact ((if_pos h109).symm)
set_option maxHeartbeats 400000 in
theorem cc_lookAtSleeper (d : Nat) (se : Nat → Int32) (tv : Nat → Int32) (ta : Nat → Nat → Int32) (tb : Nat → Nat → Int64) (nv : Nat → Int32) (na : Nat → Nat → Int32) (S : SD) (lv : Nat) (a : Nat → Nat → Int32) (hX : CX S lv a tv ta) (R : Nat → Int32) (hN : CNt S R nv na) (x : Nat) (hx : x < S.1 24) (p b : Int32) (hL : LKs S lv a R p b (S.1 31) se) : Con mX4_lookAtSleeper d [.ref 0, .ref 17, .int (nI x)] (rW se tv ta tb nv na) (fun r W' => ∃ se', W' = rW se' tv ta tb nv na ∧ LK S lv a R p b x se' ∧ r = none) := by
  obtain ⟨hcr, hcr2⟩ := hX.cr
  obtain ⟨hsl, hsl2⟩ := hX.sl
  obtain ⟨hsp, hsp1, hsp2⟩ := hX.sp
  have hWh := hN.2.2.2.2.2.2
  refine Con.of (by decide) (Nat.le_of_ble_eq_true rfl) ?_
  have q1 : (nI x).toNatClampNeg = x := nI_clamp (by omega)
  have q2 : ((na 5) x) = (R x) := (hN.2.2.2.2.2.1 x hx).1
  have q3 : (nI 0).toNatClampNeg = 0 := nI_clamp (by omega)
  have q4 : ((ta 9) x) = (a 26 (6 * lv + x)) := (hX.slo hx).2.1
  have q5 : (nI 1).toNatClampNeg = 1 := nI_clamp (by omega)
  have q6 : (nI 4).toNatClampNeg = 4 := nI_clamp (by omega)
  have q7 : ((ta 10) x) = (a 27 (6 * lv + x)) := (hX.slo hx).2.2.1
  have q8 : (nI 8).toNatClampNeg = 8 := nI_clamp (by omega)
  refine XG.blk tX4_lookAtSleeper_ok 0 31 (pc' := 50) (pl' := [some (.ref 0), some (.ref 17), some (.int (nI x))]) (st' := []) (W1 := (rW (upd (upd (upd (upd se (nI 0).toNatClampNeg ((na 5) (nI x).toNatClampNeg)) (nI 1).toNatClampNeg ((ta 9) (nI x).toNatClampNeg)) (nI 4).toNatClampNeg (nI x)) (nI 8).toNatClampNeg ((ta 10) (nI x).toNatClampNeg)) tv ta tb nv na)) (bs := [px_vb (nI x) 6, px_vb (nI 0) 16, px_vb (nI x) 6, px_vb (nI 1) 16, px_vb (nI 4) 16, px_vb (nI x) 6, px_vb (nI 8) 16]) rfl rfl (by (try simp only [q1, q2, q3, q4, q5, q6, q7, q8]); exact (px_all (px_vbN (by omega) (by decide)) (px_all (px_vbN (by omega) (by decide)) (px_all (px_vbN (by omega) (by decide)) (px_all (px_vbN (by omega) (by decide)) (px_all (px_vbN (by omega) (by decide)) (px_all (px_vbN (by omega) (by decide)) (px_all (px_vbN (by omega) (by decide)) rfl)))))))) ?_
  simp only [q1, q2, q3, q4, q5, q6, q7, q8]
  refine XS.vret eX4_lookAtSleeper_50 rfl ?_
  exact ⟨_, rfl, LKs.at ⟨hL.1, hL.2.1, hL.2.2.1, hL.2.2.2.1, hL.2.2.2.2⟩ rfl rfl rfl rfl, rfl⟩
set_option maxHeartbeats 400000 in
theorem cc_lookAsItLies (d : Nat) (se : Nat → Int32) (tv : Nat → Int32) (ta : Nat → Nat → Int32) (tb : Nat → Nat → Int64) (nv : Nat → Int32) (na : Nat → Nat → Int32) (S : SD) (lv : Nat) (a : Nat → Nat → Int32) (hX : CX S lv a tv ta) (R : Nat → Int32) (hN : CNt S R nv na) (x : Nat) (hx : x < S.1 24) (hxs : slp R (nI (S.1 35)) x) (hd : 2 ≤ d) : Con mX4_lookAsItLies d [.ref 0, .ref 17, .int (nI x)] (rW se tv ta tb nv na) (fun r W' => ∃ se', W' = rW se' tv ta tb nv na ∧ LK S lv a R (R (12 + x)) (bN S R x) x se' ∧ r = none) := by
  obtain ⟨hcr, hcr2⟩ := hX.cr
  obtain ⟨hsl, hsl2⟩ := hX.sl
  obtain ⟨hsp, hsp1, hsp2⟩ := hX.sp
  have hWh := hN.2.2.2.2.2.2
  have hm64 : mOn S R (R (12 + x)) < 64 := mOn_64 hsl2
  have hpc := pc_pos hsl2 hx hxs
  refine Con.of (by decide) (Nat.le_of_ble_eq_true rfl) ?_
  have q1 : (nI x).toNatClampNeg = x := nI_clamp (by omega)
  have q2 : ((na 6) x) = (R (12 + x)) := (hN.2.2.2.2.2.1 x hx).2
  refine XG.blk tX4_lookAsItLies_ok 0 5 (pc' := 7) (pl' := [some (.ref 0), some (.ref 17), some (.int (nI x)), none]) (st' := [(.int ((na 6) (nI x).toNatClampNeg)), (.ref 17)]) (W1 := (rW se tv ta tb nv na)) (bs := [px_vb (nI x) 6]) rfl rfl (by (try simp only [q1, q2]); exact (px_all (px_vbN (by omega) (by decide)) rfl)) ?_
  simp only [q1, q2]
  refine XG.callV (ro := [17, 18, 19, 20, 21]) (W1 := (nW nv na)) eX4_lookAsItLies_7 kl_X4_51 (cc_asleepOn (d - 1) nv na S hsl2 R hN (R (12 + x))) (px_fitS (by omega)) rfl ⟨rfl, by decide, by decide⟩ rfl rfl (Nat.le_of_ble_eq_true rfl) (fun r9 W9 hp9 hl9 => ?_)
  obtain ⟨rfl, rfl⟩ := hp9
  show XG _ _ _ _ _ _ [(.int (nI (mOn S R (R (12 + x)))))] (rW se tv ta tb nv na)
  refine XG.callSp (r := some (.int (nI (pcN (mOn S R (R (12 + x))) 6)))) eX4_lookAsItLies_10 kl_X4_72 (con_bitCount (d - 1) (mOn S R (R (12 + x))) (by omega)) (px_fitS (by omega)) rfl rfl rfl rfl (Nat.le_of_ble_eq_true rfl) ?_
  have q3 : ((nI (pcN (mOn S R (R (12 + x))) 6)) - (nI 1)) = (nI ((pcN (mOn S R (R (12 + x))) 6) - 1)) := px_esub rfl rfl (by omega)
  have q4 : (nI x).toNatClampNeg = x := nI_clamp (by omega)
  have q5 : ((na 6) x) = (R (12 + x)) := (hN.2.2.2.2.2.1 x hx).2
  refine XG.blk tX4_lookAsItLies_ok 7 10 (pc' := 25) (pl' := [some (.ref 0), some (.ref 17), some (.int (nI x)), some (.int ((nI (pcN (mOn S R (R (12 + x))) 6)) - (nI 1)))]) (st' := [(.int ((nI (pcN (mOn S R (R (12 + x))) 6)) - (nI 1))), (.int ((na 6) (nI x).toNatClampNeg)), (.ref 17), (.ref 0)]) (W1 := (rW se tv ta tb nv na)) (bs := [px_vb (nI x) 6]) rfl rfl (by (try simp only [q3, q4, q5]); exact (px_all (px_vbN (by omega) (by decide)) rfl)) ?_
  simp only [q3, q4, q5]
  refine XG.callV0 eX4_lookAsItLies_25 kl_X4_77 (cc_lookAtSpan (d - 1) se tv ta tb nv na S lv a hX R hN (R (12 + x)) (nI ((pcN (mOn S R (R (12 + x))) 6) - 1))) (px_fitS (by omega)) rfl rfl rfl (Nat.le_of_ble_eq_true rfl) (fun r9 W9 hp9 hl9 => ?_)
  obtain ⟨se1, rfl, hL1, rfl⟩ := hp9
  show XG _ _ _ _ _ _ [] (rW se1 tv ta tb nv na)
  refine XG.blk tX4_lookAsItLies_ok 18 3 (pc' := 31) (pl' := [some (.ref 0), some (.ref 17), some (.int (nI x)), some (.int (nI ((pcN (mOn S R (R (12 + x))) 6) - 1)))]) (st' := [(.int (nI x)), (.ref 17), (.ref 0)]) (W1 := (rW se1 tv ta tb nv na)) (bs := []) rfl rfl rfl ?_
  refine XG.callV0 eX4_lookAsItLies_31 kl_X4_84 (cc_lookAtSleeper (d - 1) se1 tv ta tb nv na S lv a hX R hN x (by omega) _ _ hL1) (px_fitS (by omega)) rfl rfl rfl (Nat.le_of_ble_eq_true rfl) (fun r9 W9 hp9 hl9 => ?_)
  obtain ⟨se2, rfl, hL2, rfl⟩ := hp9
  show XG _ _ _ _ _ _ [] (rW se2 tv ta tb nv na)
  refine XS.vret eX4_lookAsItLies_34 rfl ?_
  exact ⟨_, rfl, hL2, rfl⟩
theorem cc_val (d : Nat) {S : SD} {lv : Nat} {a : Nat → Nat → Int32} {tv : Nat → Int32} {ta : Nat → Nat → Int32} (hX : CX S lv a tv ta) {R : Nat → Int32} {p b : Int32} {x : Nat} {se : Nat → Int32} (hL : LK S lv a R p b x se) (k : Nat) (hk : k < 3) : Con mX0_value d [.ref 0, .int (nI k), .ref 4] (lsW (tv 20) (ta 20) (ta 21) (ta 22) se) (fun r W' => ∃ sk', W' = lsW (tv 20) (ta 20) (ta 21) sk' se ∧ r = some (.int (lawO (seF S lv a R p b x) (S.2.2.2.2 k) (plV R k x)))) := by
  obtain ⟨sz, h1, h2, h3⟩ := hX.2.2.2.2.2.2.2.2
  obtain ⟨q, q1, q2, q3⟩ := h3 k hk
  have h4 := hX.2.1.2.2.2.2.2 k
  have h5 := cc_value d sz k q hk h2 (ta 20) (ta 21) se (ta 22) (S.2.2.2.2 k) h4 q1 q2 q3
  rw [← h1, lawO_eq hL (fun bs hb => (h4 bs hb).1), show (if k = 0 then se 0 else nI 0) = plV R k x from by unfold plV; rw [show se 0 = R x from hL 0 (by decide)]] at h5
  exact h5
set_option maxHeartbeats 400000 in
theorem cc_held (d : Nat) (se : Nat → Int32) (tv : Nat → Int32) (ta : Nat → Nat → Int32) (tb : Nat → Nat → Int64) (nv : Nat → Int32) (na : Nat → Nat → Int32) (S : SD) (lv : Nat) (a : Nat → Nat → Int32) (hX : CX S lv a tv ta) (R : Nat → Int32) (hN : CNt S R nv na) (x : Nat) (hx : x < S.1 24) (hd : 3 ≤ d) : Con mX4_held d [.ref 0, .ref 17, .int (nI x)] (rW se tv ta tb nv na) (fun r W' => ∃ se' sk', W' = rW se' tv (va_up ta 22 sk') tb nv na ∧ r = some (.int (hR a lv (S.1 24) (S.1 31) R x))) := by
  obtain ⟨hcr, hcr2⟩ := hX.cr
  obtain ⟨hsl, hsl2⟩ := hX.sl
  obtain ⟨hsp, hsp1, hsp2⟩ := hX.sp
  have hWh := hN.2.2.2.2.2.2
  have hb := asl_bitF (S := S) (R := R) hx
  have hm : (mkN (slpB R (nI (S.1 35))) (S.1 24)) < 64 := mkN_64 hsl2
  have hz := bitZ' hm (show x < 6 by omega)
  rw [hN_b hX.1 hX.2.1 hX.2.2.2.1 R hx]
  refine Con.of (by decide) (Nat.le_of_ble_eq_true rfl) ?_
  have q1 : (nv 4) = (nI (mkN (slpB R (nI (S.1 35))) (S.1 24))) := hN.2.2.2.2.1
  refine XG.blk tX4_held_ok 0 6 (pc' := 8) (pl' := [some (.ref 0), some (.ref 17), some (.int (nI x))]) (st' := [(.int (((nv 4) >>> ((nI x) &&& 31)) &&& (nI 1)))]) (W1 := (rW se tv ta tb nv na)) (bs := []) rfl rfl rfl ?_
  simp only [q1]
  refine XG.br eX4_held_8 (P := ¬ (((nI (mkN (slpB R (nI (S.1 35))) (S.1 24))) >>> ((nI x) &&& 31)) &&& (nI 1)) = 0) (r := []) rfl (tgt := 13) (by decide) (fun h8 => ?_) (fun h8 => ?_)
  · skip
    have hxs : slp R (nI (S.1 35)) x := Decidable.not_not.mp (fun z => h8 (hz.mpr (hb.mpr z)))
    refine XG.blk tX4_held_ok 9 3 (pc' := 16) (pl' := [some (.ref 0), some (.ref 17), some (.int (nI x))]) (st' := [(.int (nI x)), (.ref 17), (.ref 0)]) (W1 := (rW se tv ta tb nv na)) (bs := []) rfl rfl rfl ?_
    refine XG.callV0 eX4_held_16 kl_X4_105 (cc_lookAsItLies (d - 1) se tv ta tb nv na S lv a hX R hN x (by omega) hxs (by omega)) (px_fitS (by omega)) rfl rfl rfl (Nat.le_of_ble_eq_true rfl) (fun r9 W9 hp9 hl9 => ?_)
    obtain ⟨se1, rfl, hL1, rfl⟩ := hp9
    show XG _ _ _ _ _ _ [] (rW se1 tv ta tb nv na)
    refine XG.blk tX4_held_ok 13 6 (pc' := 31) (pl' := [some (.ref 0), some (.ref 17), some (.int (nI x))]) (st' := [(.ref 1), (.int (nI 0)), (.ref 13)]) (W1 := (rW se1 tv ta tb nv na)) (bs := []) rfl rfl rfl ?_
    refine XG.callV (ro := [13, 14, 15, 16, 1]) (W1 := (lsW (tv 20) (ta 20) (ta 21) (ta 22) se1)) eX4_held_31 kl_X4_92 (cc_val (d - 1) (ta := ta) hX hL1 0 (by decide)) (px_fitS (by omega)) rfl ⟨rfl, by decide, by decide⟩ rfl rfl (Nat.le_of_ble_eq_true rfl) (fun r9 W9 hp9 hl9 => ?_)
    obtain ⟨sk2, rfl, rfl⟩ := hp9
    show XG _ _ _ _ _ _ [(.int (lawO (seF S lv a R (R (12 + x)) (bN S R x) x) (S.2.2.2.2 0) (plV R 0 x)))] (rW se1 tv (va_up ta 22 sk2) tb nv na)
    refine XG.blk tX4_held_ok 20 2 (pc' := 37) (pl' := [some (.ref 0), some (.ref 17), some (.int (nI x))]) (st' := [(.int (nI 99)), (.int (nI 0)), (.int (lawO (seF S lv a R (R (12 + x)) (bN S R x) x) (S.2.2.2.2 0) (plV R 0 x)))]) (W1 := (rW se1 tv (va_up ta 22 sk2) tb nv na)) (bs := []) rfl rfl rfl ?_
    refine XG.callNp (r := some (.int (heldF (lawO (seF S lv a R (R (12 + x)) (bN S R x) x) (S.2.2.2.2 0) (plV R 0 x)) (nI 0) (nI 99)))) eX4_held_37 kl_X4_98 (con_within (d - 1) (lawO (seF S lv a R (R (12 + x)) (bN S R x) x) (S.2.2.2.2 0) (plV R 0 x)) (nI 0) (nI 99)) (px_fitS (by omega)) rfl rfl rfl rfl (Nat.le_of_ble_eq_true rfl) ?_
    refine XS.iret eX4_held_40 rfl rfl ?_
    rw [if_pos hxs]; exact ⟨_, _, rfl, rfl⟩
  · skip
    have h8 := Decidable.not_not.mp h8
    refine XG.blk tX4_held_ok 7 1 (pc' := 12) (pl' := [some (.ref 0), some (.ref 17), some (.int (nI x))]) (st' := [(.int (nI 0))]) (W1 := (rW se tv ta tb nv na)) (bs := []) rfl rfl rfl ?_
    refine XS.iret eX4_held_12 rfl rfl ?_
    rw [if_neg (hb.mp (hz.mp h8))]; exact ⟨se, ta 22, rfl, rfl⟩
set_option maxHeartbeats 400000 in
theorem cc_waking (d : Nat) (se : Nat → Int32) (tv : Nat → Int32) (ta : Nat → Nat → Int32) (tb : Nat → Nat → Int64) (nv : Nat → Int32) (na : Nat → Nat → Int32) (S : SD) (lv : Nat) (a : Nat → Nat → Int32) (hX : CX S lv a tv ta) (R : Nat → Int32) (p b : Int32) (x : Nat) (hL : LK S lv a R p b x se) (hd : 1 ≤ d) : Con mX4_waking d [.ref 0] (rW se tv ta tb nv na) (fun r W' => ∃ sk', W' = rW se tv (va_up ta 22 sk') tb nv na ∧ r = some (.int (aV S lv a R 1 p b x (nI 0) (nI 100)))) := by
  refine Con.of (by decide) (Nat.le_of_ble_eq_true rfl) ?_
  refine XG.blk tX4_waking_ok 0 6 (pc' := 12) (pl' := [some (.ref 0)]) (st' := [(.ref 1), (.int (nI 1)), (.ref 13)]) (W1 := (rW se tv ta tb nv na)) (bs := []) rfl rfl rfl ?_
  refine XG.callV (ro := [13, 14, 15, 16, 1]) (W1 := (lsW (tv 20) (ta 20) (ta 21) (ta 22) se)) eX4_waking_12 kl_X4_92 (cc_val (d - 1) (ta := ta) hX hL 1 (by decide)) (px_fitS (by omega)) rfl ⟨rfl, by decide, by decide⟩ rfl rfl (Nat.le_of_ble_eq_true rfl) (fun r9 W9 hp9 hl9 => ?_)
  obtain ⟨sk1, rfl, rfl⟩ := hp9
  show XG _ _ _ _ _ _ [(.int (lawO (seF S lv a R p b x) (S.2.2.2.2 1) (plV R 1 x)))] (rW se tv (va_up ta 22 sk1) tb nv na)
  refine XG.blk tX4_waking_ok 7 2 (pc' := 18) (pl' := [some (.ref 0)]) (st' := [(.int (nI 100)), (.int (nI 0)), (.int (lawO (seF S lv a R p b x) (S.2.2.2.2 1) (plV R 1 x)))]) (W1 := (rW se tv (va_up ta 22 sk1) tb nv na)) (bs := []) rfl rfl rfl ?_
  refine XG.callNp (r := some (.int (heldF (lawO (seF S lv a R p b x) (S.2.2.2.2 1) (plV R 1 x)) (nI 0) (nI 100)))) eX4_waking_18 kl_X4_98 (con_within (d - 1) (lawO (seF S lv a R p b x) (S.2.2.2.2 1) (plV R 1 x)) (nI 0) (nI 100)) (px_fitS (by omega)) rfl rfl rfl rfl (Nat.le_of_ble_eq_true rfl) ?_
  refine XS.iret eX4_waking_21 rfl rfl ?_
  exact ⟨_, rfl, rfl⟩
set_option maxHeartbeats 400000 in
theorem cc_deepening (d : Nat) (se : Nat → Int32) (tv : Nat → Int32) (ta : Nat → Nat → Int32) (tb : Nat → Nat → Int64) (nv : Nat → Int32) (na : Nat → Nat → Int32) (S : SD) (lv : Nat) (a : Nat → Nat → Int32) (hX : CX S lv a tv ta) (R : Nat → Int32) (p b : Int32) (x : Nat) (hL : LK S lv a R p b x se) (hd : 1 ≤ d) : Con mX4_deepening d [.ref 0] (rW se tv ta tb nv na) (fun r W' => ∃ sk', W' = rW se tv (va_up ta 22 sk') tb nv na ∧ r = some (.int (aV S lv a R 2 p b x (-9) (nI 9)))) := by
  refine Con.of (by decide) (Nat.le_of_ble_eq_true rfl) ?_
  refine XG.blk tX4_deepening_ok 0 6 (pc' := 12) (pl' := [some (.ref 0)]) (st' := [(.ref 1), (.int (nI 2)), (.ref 13)]) (W1 := (rW se tv ta tb nv na)) (bs := []) rfl rfl rfl ?_
  refine XG.callV (ro := [13, 14, 15, 16, 1]) (W1 := (lsW (tv 20) (ta 20) (ta 21) (ta 22) se)) eX4_deepening_12 kl_X4_92 (cc_val (d - 1) (ta := ta) hX hL 2 (by decide)) (px_fitS (by omega)) rfl ⟨rfl, by decide, by decide⟩ rfl rfl (Nat.le_of_ble_eq_true rfl) (fun r9 W9 hp9 hl9 => ?_)
  obtain ⟨sk1, rfl, rfl⟩ := hp9
  show XG _ _ _ _ _ _ [(.int (lawO (seF S lv a R p b x) (S.2.2.2.2 2) (plV R 2 x)))] (rW se tv (va_up ta 22 sk1) tb nv na)
  refine XG.blk tX4_deepening_ok 7 2 (pc' := 19) (pl' := [some (.ref 0)]) (st' := [(.int (nI 9)), (.int (-9)), (.int (lawO (seF S lv a R p b x) (S.2.2.2.2 2) (plV R 2 x)))]) (W1 := (rW se tv (va_up ta 22 sk1) tb nv na)) (bs := []) rfl rfl rfl ?_
  refine XG.callNp (r := some (.int (heldF (lawO (seF S lv a R p b x) (S.2.2.2.2 2) (plV R 2 x)) (-9) (nI 9)))) eX4_deepening_19 kl_X4_98 (con_within (d - 1) (lawO (seF S lv a R p b x) (S.2.2.2.2 2) (plV R 2 x)) (-9) (nI 9)) (px_fitS (by omega)) rfl rfl rfl rfl (Nat.le_of_ble_eq_true rfl) ?_
  refine XS.iret eX4_deepening_22 rfl rfl ?_
  exact ⟨_, rfl, rfl⟩
set_option maxHeartbeats 400000 in
theorem cc_wakingOf (d : Nat) (se : Nat → Int32) (tv : Nat → Int32) (ta : Nat → Nat → Int32) (tb : Nat → Nat → Int64) (nv : Nat → Int32) (na : Nat → Nat → Int32) (S : SD) (lv : Nat) (a : Nat → Nat → Int32) (hX : CX S lv a tv ta) (R : Nat → Int32) (hN : CNt S R nv na) (x : Nat) (hx : x < S.1 24) (hxs : slp R (nI (S.1 35)) x) (hd : 4 ≤ d) : Con mX4_wakingOf d [.ref 0, .ref 17, .int (nI x)] (rW se tv ta tb nv na) (fun r W' => ∃ se' sk', W' = rW se' tv (va_up ta 22 sk') tb nv na ∧ r = some (.int (askV (va_up a 55 R) lv (S.1 24) (S.1 31) 1 x (nI 0) (nI 0) (nI 100)))) := by
  obtain ⟨hcr, hcr2⟩ := hX.cr
  obtain ⟨hsl, hsl2⟩ := hX.sl
  obtain ⟨hsp, hsp1, hsp2⟩ := hX.sp
  have hWh := hN.2.2.2.2.2.2
  rw [show askV (va_up a 55 R) lv (S.1 24) (S.1 31) 1 x (nI 0) (nI 0) (nI 100) = _ from ask_b hX.1 hX.2.1 hX.2.2.2.1 R (k := 1) (by decide) hx hxs (nI 0) (nI 100)]
  refine Con.of (by decide) (Nat.le_of_ble_eq_true rfl) ?_
  refine XG.blk tX4_wakingOf_ok 0 3 (pc' := 3) (pl' := [some (.ref 0), some (.ref 17), some (.int (nI x))]) (st' := [(.int (nI x)), (.ref 17), (.ref 0)]) (W1 := (rW se tv ta tb nv na)) (bs := []) rfl rfl rfl ?_
  refine XG.callV0 eX4_wakingOf_3 kl_X4_105 (cc_lookAsItLies (d - 1) se tv ta tb nv na S lv a hX R hN x (by omega) hxs (by omega)) (px_fitS (by omega)) rfl rfl rfl (Nat.le_of_ble_eq_true rfl) (fun r9 W9 hp9 hl9 => ?_)
  obtain ⟨se1, rfl, hL1, rfl⟩ := hp9
  show XG _ _ _ _ _ _ [] (rW se1 tv ta tb nv na)
  refine XG.blk tX4_wakingOf_ok 4 1 (pc' := 7) (pl' := [some (.ref 0), some (.ref 17), some (.int (nI x))]) (st' := [(.ref 0)]) (W1 := (rW se1 tv ta tb nv na)) (bs := []) rfl rfl rfl ?_
  refine XG.callV0 eX4_wakingOf_7 kl_X4_108 (cc_waking (d - 1) se1 tv ta tb nv na S lv a hX R _ _ _ hL1 (by omega)) (px_fitS (by omega)) rfl rfl rfl (Nat.le_of_ble_eq_true rfl) (fun r9 W9 hp9 hl9 => ?_)
  obtain ⟨sk2, rfl, rfl⟩ := hp9
  show XG _ _ _ _ _ _ [(.int (aV S lv a R 1 (R (12 + x)) (bN S R x) x (nI 0) (nI 100)))] (rW se1 tv (va_up ta 22 sk2) tb nv na)
  refine XS.iret eX4_wakingOf_10 rfl rfl ?_
  exact ⟨_, _, rfl, rfl⟩
set_option maxHeartbeats 400000 in
theorem cc_deepeningOf (d : Nat) (se : Nat → Int32) (tv : Nat → Int32) (ta : Nat → Nat → Int32) (tb : Nat → Nat → Int64) (nv : Nat → Int32) (na : Nat → Nat → Int32) (S : SD) (lv : Nat) (a : Nat → Nat → Int32) (hX : CX S lv a tv ta) (R : Nat → Int32) (hN : CNt S R nv na) (x : Nat) (hx : x < S.1 24) (hxs : slp R (nI (S.1 35)) x) (hd : 4 ≤ d) : Con mX4_deepeningOf d [.ref 0, .ref 17, .int (nI x)] (rW se tv ta tb nv na) (fun r W' => ∃ se' sk', W' = rW se' tv (va_up ta 22 sk') tb nv na ∧ r = some (.int (askV (va_up a 55 R) lv (S.1 24) (S.1 31) 2 x (nI 0) (-9) (nI 9)))) := by
  obtain ⟨hcr, hcr2⟩ := hX.cr
  obtain ⟨hsl, hsl2⟩ := hX.sl
  obtain ⟨hsp, hsp1, hsp2⟩ := hX.sp
  have hWh := hN.2.2.2.2.2.2
  rw [show askV (va_up a 55 R) lv (S.1 24) (S.1 31) 2 x (nI 0) (-9) (nI 9) = _ from ask_b hX.1 hX.2.1 hX.2.2.2.1 R (k := 2) (by decide) hx hxs (-9) (nI 9)]
  refine Con.of (by decide) (Nat.le_of_ble_eq_true rfl) ?_
  refine XG.blk tX4_deepeningOf_ok 0 3 (pc' := 3) (pl' := [some (.ref 0), some (.ref 17), some (.int (nI x))]) (st' := [(.int (nI x)), (.ref 17), (.ref 0)]) (W1 := (rW se tv ta tb nv na)) (bs := []) rfl rfl rfl ?_
  refine XG.callV0 eX4_deepeningOf_3 kl_X4_105 (cc_lookAsItLies (d - 1) se tv ta tb nv na S lv a hX R hN x (by omega) hxs (by omega)) (px_fitS (by omega)) rfl rfl rfl (Nat.le_of_ble_eq_true rfl) (fun r9 W9 hp9 hl9 => ?_)
  obtain ⟨se1, rfl, hL1, rfl⟩ := hp9
  show XG _ _ _ _ _ _ [] (rW se1 tv ta tb nv na)
  refine XG.blk tX4_deepeningOf_ok 4 1 (pc' := 7) (pl' := [some (.ref 0), some (.ref 17), some (.int (nI x))]) (st' := [(.ref 0)]) (W1 := (rW se1 tv ta tb nv na)) (bs := []) rfl rfl rfl ?_
  refine XG.callV0 eX4_deepeningOf_7 kl_X4_112 (cc_deepening (d - 1) se1 tv ta tb nv na S lv a hX R _ _ _ hL1 (by omega)) (px_fitS (by omega)) rfl rfl rfl (Nat.le_of_ble_eq_true rfl) (fun r9 W9 hp9 hl9 => ?_)
  obtain ⟨sk2, rfl, rfl⟩ := hp9
  show XG _ _ _ _ _ _ [(.int (aV S lv a R 2 (R (12 + x)) (bN S R x) x (-9) (nI 9)))] (rW se1 tv (va_up ta 22 sk2) tb nv na)
  refine XS.iret eX4_deepeningOf_10 rfl rfl ?_
  exact ⟨_, _, rfl, rfl⟩
theorem nI_mul (x y : Nat) : nI x * nI y = nI (x * y) := px_emul rfl rfl
set_option maxHeartbeats 400000 in
theorem cc_borneBy (d : Nat) (se : Nat → Int32) (tv : Nat → Int32) (ta : Nat → Nat → Int32) (tb : Nat → Nat → Int64) (nv : Nat → Int32) (na : Nat → Nat → Int32) (S : SD) (lv : Nat) (a : Nat → Nat → Int32) (hX : CX S lv a tv ta) (R : Nat → Int32) (hN : CNt S R nv na) (p : Int32) (m : Nat) (hm : m < 64) (hd : 2 ≤ d) : Con mX4_borneBy d [.ref 0, .ref 17, .int p, .int (nI m)] (rW se tv ta tb nv na) (fun r W' => ∃ se' sk', W' = rW se' tv (va_up ta 22 sk') tb nv na ∧ r = some (.int (bV S lv a R p m))) := by
  obtain ⟨hcr, hcr2⟩ := hX.cr
  obtain ⟨hsl, hsl2⟩ := hX.sl
  obtain ⟨hsp, hsp1, hsp2⟩ := hX.sp
  have hWh := hN.2.2.2.2.2.2
  refine Con.of (by decide) (Nat.le_of_ble_eq_true rfl) ?_
  refine XG.blk tX4_borneBy_ok 0 1 (pc' := 1) (pl' := [some (.ref 0), some (.ref 17), some (.int p), some (.int (nI m)), none, none]) (st' := [(.int (nI m))]) (W1 := (rW se tv ta tb nv na)) (bs := []) rfl rfl rfl ?_
  refine XG.br eX4_borneBy_1 (P := ¬ (nI m) = 0) (r := []) rfl (tgt := 6) (by decide) (fun h1 => ?_) (fun h1 => ?_)
  · skip
    have g1 : ¬ m = 0 := (fun z => h1 ((nI_eq (a := m) (b := 0) (by omega) (by omega)).mpr z))
    have hpc := pc_pos2 ⟨m, hm⟩ (fun z => g1 z)
    have hb0 : bV S lv a R p m = (itN (bvF S lv a R p m) (nI ((S.1 36) * (prC S.2.2.2.1 m (S.1 30)))) (S.1 24)) := by unfold bV; rw [if_neg g1, nI_mul]
    refine XG.blk tX4_borneBy_ok 4 4 (pc' := 10) (pl' := [some (.ref 0), some (.ref 17), some (.int p), some (.int (nI m)), none, none]) (st' := [(.int (nI m)), (.int p), (.ref 17), (.ref 0)]) (W1 := (rW se tv ta tb nv na)) (bs := []) rfl rfl rfl ?_
    refine XG.callSp (r := some (.int (nI (pcN m 6)))) eX4_borneBy_10 kl_X4_72 (con_bitCount (d - 1) m (by omega)) (px_fitS (by omega)) rfl rfl rfl rfl (Nat.le_of_ble_eq_true rfl) ?_
    have q1 : ((nI (pcN m 6)) - (nI 1)) = (nI ((pcN m 6) - 1)) := px_esub rfl rfl (by omega)
    refine XG.blk tX4_borneBy_ok 9 2 (pc' := 15) (pl' := [some (.ref 0), some (.ref 17), some (.int p), some (.int (nI m)), none, none]) (st' := [(.int ((nI (pcN m 6)) - (nI 1))), (.int p), (.ref 17), (.ref 0)]) (W1 := (rW se tv ta tb nv na)) (bs := []) rfl rfl rfl ?_
    simp only [q1]
    refine XG.callV0 eX4_borneBy_15 kl_X4_77 (cc_lookAtSpan (d - 1) se tv ta tb nv na S lv a hX R hN p (nI ((pcN m 6) - 1))) (px_fitS (by omega)) rfl rfl rfl (Nat.le_of_ble_eq_true rfl) (fun r9 W9 hp9 hl9 => ?_)
    obtain ⟨se1, rfl, hL1, rfl⟩ := hp9
    show XG _ _ _ _ _ _ [] (rW se1 tv ta tb nv na)
    have q2 : (tv 5) = (nI (S.1 36)) := hX.bo.1
    refine XG.blk tX4_borneBy_ok 12 5 (pc' := 27) (pl' := [some (.ref 0), some (.ref 17), some (.int p), some (.int (nI m)), none, none]) (st' := [(.int (nI m)), (.ref 0), (.int (tv 5))]) (W1 := (rW se1 tv ta tb nv na)) (bs := []) rfl rfl rfl ?_
    simp only [q2]
    refine XG.callV0 eX4_borneBy_27 kl_X4_55 (cc_pairsIn (d - 1) se1 tv ta tb nv na S lv a hX m (by omega)) (px_fitS (by omega)) rfl rfl rfl (Nat.le_of_ble_eq_true rfl) (fun r9 W9 hp9 hl9 => ?_)
    obtain ⟨rfl, rfl⟩ := hp9
    have q3 : ((nI (S.1 36)) * (nI (prC S.2.2.2.1 m (S.1 30)))) = (nI ((S.1 36) * (prC S.2.2.2.1 m (S.1 30)))) := px_emul rfl rfl
    refine XG.blk tX4_borneBy_ok 18 4 (pc' := 36) (pl' := [some (.ref 0), some (.ref 17), some (.int p), some (.int (nI m)), some (.int ((nI (S.1 36)) * (nI (prC S.2.2.2.1 m (S.1 30))))), some (.int (nI 0))]) (st' := []) (W1 := (rW se1 tv ta tb nv na)) (bs := []) rfl rfl rfl ?_
    simp only [q3]
    refine px_for (S.1 24) (fun i => ∀ (se9 sk9 : Nat → Int32) (_ : LKs S lv a R p (nI ((pcN m 6) - 1)) (S.1 31) se9), XG mX4_borneBy _ 0 0 36 [some (.ref 0), some (.ref 17), some (.int p), some (.int (nI m)), some (.int (itN (bvF S lv a R p m) (nI ((S.1 36) * (prC S.2.2.2.1 m (S.1 30)))) i)), some (.int (nI i))] [] (rW se9 tv (va_up ta 22 sk9) tb nv na)) ?_ ?_ 0 (Nat.zero_le _) _ (ta 22) hL1
    · intro se9 sk9 hL9
      have q4 : (tv 1) = (nI (S.1 24)) := hsl
      refine XG.blk tX4_borneBy_ok 22 4 (pc' := 45) (pl' := [some (.ref 0), some (.ref 17), some (.int p), some (.int (nI m)), some (.int (itN (bvF S lv a R p m) (nI ((S.1 36) * (prC S.2.2.2.1 m (S.1 30)))) (S.1 24))), some (.int (nI (S.1 24)))]) (st' := [(.int (tv 1)), (.int (nI (S.1 24)))]) (W1 := (rW se9 tv (va_up ta 22 sk9) tb nv na)) (bs := []) rfl rfl rfl ?_
      simp only [q4]
      refine XG.br eX4_borneBy_45 (P := (nI (S.1 24)) ≤ (nI (S.1 24))) (r := []) rfl (tgt := 97) (by decide) (fun h45 => ?_) (fun h45 => ?_)
      · skip
        have g45 : (S.1 24) ≤ (S.1 24) := (nI_leI (a := (S.1 24)) (b := (S.1 24)) (by omega) (by omega)).mp h45
        refine XG.blk tX4_borneBy_ok 53 1 (pc' := 99) (pl' := [some (.ref 0), some (.ref 17), some (.int p), some (.int (nI m)), some (.int (itN (bvF S lv a R p m) (nI ((S.1 36) * (prC S.2.2.2.1 m (S.1 30)))) (S.1 24))), some (.int (nI (S.1 24)))]) (st' := [(.int (itN (bvF S lv a R p m) (nI ((S.1 36) * (prC S.2.2.2.1 m (S.1 30)))) (S.1 24)))]) (W1 := (rW se9 tv (va_up ta 22 sk9) tb nv na)) (bs := []) rfl rfl rfl ?_
        refine XS.iret eX4_borneBy_99 rfl rfl ?_
        rw [hb0]; exact ⟨_, _, rfl, rfl⟩
      · exfalso
        have g45 : ¬ (S.1 24) ≤ (S.1 24) := (fun z => h45 ((nI_leI (a := (S.1 24)) (b := (S.1 24)) (by omega) (by omega)).mpr z))
        omega
    · intro i hi ihi se9 sk9 hL9
      have q5 : (tv 1) = (nI (S.1 24)) := hsl
      refine XG.blk tX4_borneBy_ok 22 4 (pc' := 45) (pl' := [some (.ref 0), some (.ref 17), some (.int p), some (.int (nI m)), some (.int (itN (bvF S lv a R p m) (nI ((S.1 36) * (prC S.2.2.2.1 m (S.1 30)))) i)), some (.int (nI i))]) (st' := [(.int (tv 1)), (.int (nI i))]) (W1 := (rW se9 tv (va_up ta 22 sk9) tb nv na)) (bs := []) rfl rfl rfl ?_
      simp only [q5]
      refine XG.br eX4_borneBy_45 (P := (nI (S.1 24)) ≤ (nI i)) (r := []) rfl (tgt := 97) (by decide) (fun h45 => ?_) (fun h45 => ?_)
      · exfalso
        have g45 : (S.1 24) ≤ i := (nI_leI (a := (S.1 24)) (b := i) (by omega) (by omega)).mp h45
        omega
      · skip
        have g45 : ¬ (S.1 24) ≤ i := (fun z => h45 ((nI_leI (a := (S.1 24)) (b := i) (by omega) (by omega)).mpr z))
        refine XG.blk tX4_borneBy_ok 27 6 (pc' := 55) (pl' := [some (.ref 0), some (.ref 17), some (.int p), some (.int (nI m)), some (.int (itN (bvF S lv a R p m) (nI ((S.1 36) * (prC S.2.2.2.1 m (S.1 30)))) i)), some (.int (nI i))]) (st' := [(.int (nI 1)), (.int (((nI m) >>> ((nI i) &&& 31)) &&& (nI 1)))]) (W1 := (rW se9 tv (va_up ta 22 sk9) tb nv na)) (bs := []) rfl rfl rfl ?_
        refine XG.br eX4_borneBy_55 (P := ¬ (((nI m) >>> ((nI i) &&& 31)) &&& (nI 1)) = (nI 1)) (r := []) rfl (tgt := 91) (by decide) (fun h55 => ?_) (fun h55 => ?_)
        · skip
          have q6 : ((nI i) + (nI 1)) = (nI (i + 1)) := px_eadd rfl rfl
          refine XG.blk tX4_borneBy_ok 51 1 (pc' := 94) (pl' := [some (.ref 0), some (.ref 17), some (.int p), some (.int (nI m)), some (.int (itN (bvF S lv a R p m) (nI ((S.1 36) * (prC S.2.2.2.1 m (S.1 30)))) i)), some (.int ((nI i) + (nI 1)))]) (st' := []) (W1 := (rW se9 tv (va_up ta 22 sk9) tb nv na)) (bs := []) rfl rfl rfl ?_
          simp only [q6]
          refine XG.goto eX4_borneBy_94 (tgt := 36) (by decide) ?_
          rw [show (itN (bvF S lv a R p m) (nI ((S.1 36) * (prC S.2.2.2.1 m (S.1 30)))) (i + 1)) = (itN (bvF S lv a R p m) (nI ((S.1 36) * (prC S.2.2.2.1 m (S.1 30)))) i) from if_neg (fun z => h55 ((bitT' hm (by omega)).mpr z))] at ihi; exact ihi _ _ hL9
        · skip
          have h55 := Decidable.not_not.mp h55
          refine XG.blk tX4_borneBy_ok 34 3 (pc' := 62) (pl' := [some (.ref 0), some (.ref 17), some (.int p), some (.int (nI m)), some (.int (itN (bvF S lv a R p m) (nI ((S.1 36) * (prC S.2.2.2.1 m (S.1 30)))) i)), some (.int (nI i))]) (st' := [(.int (nI i)), (.ref 17), (.ref 0)]) (W1 := (rW se9 tv (va_up ta 22 sk9) tb nv na)) (bs := []) rfl rfl rfl ?_
          refine XG.callV0 eX4_borneBy_62 kl_X4_84 (cc_lookAtSleeper (d - 1) se9 tv (va_up ta 22 sk9) tb nv na S lv a hX.sk R hN i (by omega) _ _ hL9) (px_fitS (by omega)) rfl rfl rfl (Nat.le_of_ble_eq_true rfl) (fun r9 W9 hp9 hl9 => ?_)
          obtain ⟨se2, rfl, hL2, rfl⟩ := hp9
          show XG _ _ _ _ _ _ [] (rW se2 tv (va_up ta 22 sk9) tb nv na)
          refine XG.blk tX4_borneBy_ok 38 7 (pc' := 79) (pl' := [some (.ref 0), some (.ref 17), some (.int p), some (.int (nI m)), some (.int (itN (bvF S lv a R p m) (nI ((S.1 36) * (prC S.2.2.2.1 m (S.1 30)))) i)), some (.int (nI i))]) (st' := [(.ref 1), (.int (nI 0)), (.ref 13), (.int (itN (bvF S lv a R p m) (nI ((S.1 36) * (prC S.2.2.2.1 m (S.1 30)))) i))]) (W1 := (rW se2 tv (va_up ta 22 sk9) tb nv na)) (bs := []) rfl rfl rfl ?_
          refine XG.callV (ro := [13, 14, 15, 16, 1]) (W1 := (lsW (tv 20) (ta 20) (ta 21) sk9 se2)) eX4_borneBy_79 kl_X4_92 (cc_val (d - 1) (ta := (va_up ta 22 sk9)) hX.sk hL2 0 (by decide)) (px_fitS (by omega)) rfl ⟨rfl, by decide, by decide⟩ rfl rfl (Nat.le_of_ble_eq_true rfl) (fun r9 W9 hp9 hl9 => ?_)
          obtain ⟨sk3, rfl, rfl⟩ := hp9
          show XG _ _ _ _ _ _ [(.int (lawO (seF S lv a R p (nI ((pcN m 6) - 1)) i) (S.2.2.2.2 0) (plV R 0 i))), (.int (itN (bvF S lv a R p m) (nI ((S.1 36) * (prC S.2.2.2.1 m (S.1 30)))) i))] (rW se2 tv (va_up ta 22 sk3) tb nv na)
          refine XG.blk tX4_borneBy_ok 46 2 (pc' := 85) (pl' := [some (.ref 0), some (.ref 17), some (.int p), some (.int (nI m)), some (.int (itN (bvF S lv a R p m) (nI ((S.1 36) * (prC S.2.2.2.1 m (S.1 30)))) i)), some (.int (nI i))]) (st' := [(.int (nI 99)), (.int (nI 0)), (.int (lawO (seF S lv a R p (nI ((pcN m 6) - 1)) i) (S.2.2.2.2 0) (plV R 0 i))), (.int (itN (bvF S lv a R p m) (nI ((S.1 36) * (prC S.2.2.2.1 m (S.1 30)))) i))]) (W1 := (rW se2 tv (va_up ta 22 sk3) tb nv na)) (bs := []) rfl rfl rfl ?_
          refine XG.callNp (r := some (.int (heldF (lawO (seF S lv a R p (nI ((pcN m 6) - 1)) i) (S.2.2.2.2 0) (plV R 0 i)) (nI 0) (nI 99)))) eX4_borneBy_85 kl_X4_98 (con_within (d - 1) (lawO (seF S lv a R p (nI ((pcN m 6) - 1)) i) (S.2.2.2.2 0) (plV R 0 i)) (nI 0) (nI 99)) (px_fitS (by omega)) rfl rfl rfl rfl (Nat.le_of_ble_eq_true rfl) ?_
          have q7 : ((nI i) + (nI 1)) = (nI (i + 1)) := px_eadd rfl rfl
          refine XG.blk tX4_borneBy_ok 49 3 (pc' := 94) (pl' := [some (.ref 0), some (.ref 17), some (.int p), some (.int (nI m)), some (.int ((itN (bvF S lv a R p m) (nI ((S.1 36) * (prC S.2.2.2.1 m (S.1 30)))) i) + (heldF (lawO (seF S lv a R p (nI ((pcN m 6) - 1)) i) (S.2.2.2.2 0) (plV R 0 i)) (nI 0) (nI 99)))), some (.int ((nI i) + (nI 1)))]) (st' := []) (W1 := (rW se2 tv (va_up ta 22 sk3) tb nv na)) (bs := []) rfl rfl rfl ?_
          simp only [q7]
          refine XG.goto eX4_borneBy_94 (tgt := 36) (by decide) ?_
          rw [show (itN (bvF S lv a R p m) (nI ((S.1 36) * (prC S.2.2.2.1 m (S.1 30)))) (i + 1)) = (itN (bvF S lv a R p m) (nI ((S.1 36) * (prC S.2.2.2.1 m (S.1 30)))) i) + aV S lv a R 0 p (nI ((pcN m 6) - 1)) i (nI 0) (nI 99) from if_pos ((bitT' hm (by omega)).mp h55)] at ihi; exact ihi _ _ hL2.s
  · skip
    have h1 := Decidable.not_not.mp h1
    have g1 : m = 0 := (nI_eq (a := m) (b := 0) (by omega) (by omega)).mp h1
    refine XG.blk tX4_borneBy_ok 2 1 (pc' := 5) (pl' := [some (.ref 0), some (.ref 17), some (.int p), some (.int (nI m)), none, none]) (st' := [(.int (nI 0))]) (W1 := (rW se tv ta tb nv na)) (bs := []) rfl rfl rfl ?_
    refine XS.iret eX4_borneBy_5 rfl rfl ?_
    exact ⟨se, ta 22, rfl, by unfold bV; rw [if_pos g1]; rfl⟩
set_option maxHeartbeats 400000 in
theorem cc_borne (d : Nat) (se : Nat → Int32) (tv : Nat → Int32) (ta : Nat → Nat → Int32) (tb : Nat → Nat → Int64) (nv : Nat → Int32) (na : Nat → Nat → Int32) (S : SD) (lv : Nat) (a : Nat → Nat → Int32) (hX : CX S lv a tv ta) (R : Nat → Int32) (hN : CNt S R nv na) (p : Int32) (hd : 3 ≤ d) : Con mX4_borne d [.ref 0, .ref 17, .int p] (rW se tv ta tb nv na) (fun r W' => ∃ se' sk', W' = rW se' tv (va_up ta 22 sk') tb nv na ∧ r = some (.int (bR a lv (S.1 24) (S.1 31) R p))) := by
  obtain ⟨hcr, hcr2⟩ := hX.cr
  obtain ⟨hsl, hsl2⟩ := hX.sl
  obtain ⟨hsp, hsp1, hsp2⟩ := hX.sp
  have hWh := hN.2.2.2.2.2.2
  have hm : mOn S R p < 64 := mOn_64 hsl2
  rw [bears_bV hX.1 hX.2.1 hX.2.2.1 hX.2.2.2.1 R p]
  refine Con.of (by decide) (Nat.le_of_ble_eq_true rfl) ?_
  refine XG.blk tX4_borne_ok 0 5 (pc' := 5) (pl' := [some (.ref 0), some (.ref 17), some (.int p)]) (st' := [(.int p), (.ref 17), (.int p), (.ref 17), (.ref 0)]) (W1 := (rW se tv ta tb nv na)) (bs := []) rfl rfl rfl ?_
  refine XG.callV (ro := [17, 18, 19, 20, 21]) (W1 := (nW nv na)) eX4_borne_5 kl_X4_51 (cc_asleepOn (d - 1) nv na S hsl2 R hN p) (px_fitS (by omega)) rfl ⟨rfl, by decide, by decide⟩ rfl rfl (Nat.le_of_ble_eq_true rfl) (fun r9 W9 hp9 hl9 => ?_)
  obtain ⟨rfl, rfl⟩ := hp9
  show XG _ _ _ _ _ _ [(.int (nI (mOn S R p))), (.int p), (.ref 17), (.ref 0)] (rW se tv ta tb nv na)
  refine XG.callV0 eX4_borne_8 kl_X4_58 (cc_borneBy (d - 1) se tv ta tb nv na S lv a hX R hN p (mOn S R p) (by omega) (by omega)) (px_fitS (by omega)) rfl rfl rfl (Nat.le_of_ble_eq_true rfl) (fun r9 W9 hp9 hl9 => ?_)
  obtain ⟨se1, sk1, rfl, rfl⟩ := hp9
  show XG _ _ _ _ _ _ [(.int (bV S lv a R p (mOn S R p)))] (rW se1 tv (va_up ta 22 sk1) tb nv na)
  refine XS.iret eX4_borne_11 rfl rfl ?_
  exact ⟨_, _, rfl, rfl⟩
set_option maxHeartbeats 400000 in
theorem cc_leastBorne (d : Nat) (se : Nat → Int32) (tv : Nat → Int32) (ta : Nat → Nat → Int32) (tb : Nat → Nat → Int64) (nv : Nat → Int32) (na : Nat → Nat → Int32) (S : SD) (lv : Nat) (a : Nat → Nat → Int32) (hX : CX S lv a tv ta) (R : Nat → Int32) (hN : CNt S R nv na) (hd : 4 ≤ d) : Con mX4_leastBorne d [.ref 0, .ref 17] (rW se tv ta tb nv na) (fun r W' => ∃ se' sk', W' = rW se' tv (va_up ta 22 sk') tb nv na ∧ r = some (.int (lR a lv (S.1 23) (S.1 24) (S.1 31) R))) := by
  obtain ⟨hcr, hcr2⟩ := hX.cr
  obtain ⟨hsl, hsl2⟩ := hX.sl
  obtain ⟨hsp, hsp1, hsp2⟩ := hX.sp
  have hWh := hN.2.2.2.2.2.2
  refine Con.of (by decide) (Nat.le_of_ble_eq_true rfl) ?_
  refine XG.blk tX4_leastBorne_ok 0 3 (pc' := 3) (pl' := [some (.ref 0), some (.ref 17), none, none]) (st' := [(.int (nI 0)), (.ref 17), (.ref 0)]) (W1 := (rW se tv ta tb nv na)) (bs := []) rfl rfl rfl ?_
  refine XG.callV0 eX4_leastBorne_3 kl_X4_62 (cc_borne (d - 1) se tv ta tb nv na S lv a hX R hN (nI 0) (by omega)) (px_fitS (by omega)) rfl rfl rfl (Nat.le_of_ble_eq_true rfl) (fun r9 W9 hp9 hl9 => ?_)
  obtain ⟨se1, sk1, rfl, rfl⟩ := hp9
  show XG _ _ _ _ _ _ [(.int (bR a lv (S.1 24) (S.1 31) R (nI 0)))] (rW se1 tv (va_up ta 22 sk1) tb nv na)
  refine XG.blk tX4_leastBorne_ok 4 3 (pc' := 9) (pl' := [some (.ref 0), some (.ref 17), some (.int (bR a lv (S.1 24) (S.1 31) R (nI 0))), some (.int (nI 1))]) (st' := []) (W1 := (rW se1 tv (va_up ta 22 sk1) tb nv na)) (bs := []) rfl rfl rfl ?_
  refine px_for (S.1 23 - 1) (fun i => ∀ (se9 sk9 : Nat → Int32), XG mX4_leastBorne _ 0 0 9 [some (.ref 0), some (.ref 17), some (.int (itN (leF (va_up a 55 R) lv (S.1 24) (S.1 31)) (bR a lv (S.1 24) (S.1 31) R (nI 0)) i)), some (.int (nI (1 + i)))] [] (rW se9 tv (va_up ta 22 sk9) tb nv na)) ?_ ?_ 0 (Nat.zero_le _) _ _
  · intro se9 sk9
    have q1 : (tv 0) = (nI (S.1 23)) := hsp
    refine XG.blk tX4_leastBorne_ok 7 4 (pc' := 17) (pl' := [some (.ref 0), some (.ref 17), some (.int (itN (leF (va_up a 55 R) lv (S.1 24) (S.1 31)) (bR a lv (S.1 24) (S.1 31) R (nI 0)) (S.1 23 - 1))), some (.int (nI (1 + (S.1 23 - 1))))]) (st' := [(.int (tv 0)), (.int (nI (1 + (S.1 23 - 1))))]) (W1 := (rW se9 tv (va_up ta 22 sk9) tb nv na)) (bs := []) rfl rfl rfl ?_
    simp only [q1]
    refine XG.br eX4_leastBorne_17 (P := (nI (S.1 23)) ≤ (nI (1 + (S.1 23 - 1)))) (r := []) rfl (tgt := 37) (by decide) (fun h17 => ?_) (fun h17 => ?_)
    · skip
      have g17 : (S.1 23) ≤ (1 + (S.1 23 - 1)) := (nI_leI (a := (S.1 23)) (b := (1 + (S.1 23 - 1))) (by omega) (by omega)).mp h17
      refine XG.blk tX4_leastBorne_ok 21 1 (pc' := 38) (pl' := [some (.ref 0), some (.ref 17), some (.int (itN (leF (va_up a 55 R) lv (S.1 24) (S.1 31)) (bR a lv (S.1 24) (S.1 31) R (nI 0)) (S.1 23 - 1))), some (.int (nI (1 + (S.1 23 - 1))))]) (st' := [(.int (itN (leF (va_up a 55 R) lv (S.1 24) (S.1 31)) (bR a lv (S.1 24) (S.1 31) R (nI 0)) (S.1 23 - 1)))]) (W1 := (rW se9 tv (va_up ta 22 sk9) tb nv na)) (bs := []) rfl rfl rfl ?_
      refine XS.iret eX4_leastBorne_38 rfl rfl ?_
      exact ⟨_, _, rfl, rfl⟩
    · exfalso
      have g17 : ¬ (S.1 23) ≤ (1 + (S.1 23 - 1)) := (fun z => h17 ((nI_leI (a := (S.1 23)) (b := (1 + (S.1 23 - 1))) (by omega) (by omega)).mpr z))
      omega
  · intro i hi ihi se9 sk9
    have q2 : (tv 0) = (nI (S.1 23)) := hsp
    refine XG.blk tX4_leastBorne_ok 7 4 (pc' := 17) (pl' := [some (.ref 0), some (.ref 17), some (.int (itN (leF (va_up a 55 R) lv (S.1 24) (S.1 31)) (bR a lv (S.1 24) (S.1 31) R (nI 0)) i)), some (.int (nI (1 + i)))]) (st' := [(.int (tv 0)), (.int (nI (1 + i)))]) (W1 := (rW se9 tv (va_up ta 22 sk9) tb nv na)) (bs := []) rfl rfl rfl ?_
    simp only [q2]
    refine XG.br eX4_leastBorne_17 (P := (nI (S.1 23)) ≤ (nI (1 + i))) (r := []) rfl (tgt := 37) (by decide) (fun h17 => ?_) (fun h17 => ?_)
    · exfalso
      have g17 : (S.1 23) ≤ (1 + i) := (nI_leI (a := (S.1 23)) (b := (1 + i)) (by omega) (by omega)).mp h17
      omega
    · skip
      have g17 : ¬ (S.1 23) ≤ (1 + i) := (fun z => h17 ((nI_leI (a := (S.1 23)) (b := (1 + i)) (by omega) (by omega)).mpr z))
      refine XG.blk tX4_leastBorne_ok 12 4 (pc' := 24) (pl' := [some (.ref 0), some (.ref 17), some (.int (itN (leF (va_up a 55 R) lv (S.1 24) (S.1 31)) (bR a lv (S.1 24) (S.1 31) R (nI 0)) i)), some (.int (nI (1 + i)))]) (st' := [(.int (nI (1 + i))), (.ref 17), (.ref 0), (.int (itN (leF (va_up a 55 R) lv (S.1 24) (S.1 31)) (bR a lv (S.1 24) (S.1 31) R (nI 0)) i))]) (W1 := (rW se9 tv (va_up ta 22 sk9) tb nv na)) (bs := []) rfl rfl rfl ?_
      refine XG.callV0 eX4_leastBorne_24 kl_X4_62 (cc_borne (d - 1) se9 tv (va_up ta 22 sk9) tb nv na S lv a hX.sk R hN (nI (1 + i)) (by omega)) (px_fitS (by omega)) rfl rfl rfl (Nat.le_of_ble_eq_true rfl) (fun r9 W9 hp9 hl9 => ?_)
      obtain ⟨se2, sk2, rfl, rfl⟩ := hp9
      show XG _ _ _ _ _ _ [(.int (bR a lv (S.1 24) (S.1 31) R (nI (1 + i)))), (.int (itN (leF (va_up a 55 R) lv (S.1 24) (S.1 31)) (bR a lv (S.1 24) (S.1 31) R (nI 0)) i))] (rW se2 tv (va_up ta 22 sk2) tb nv na)
      refine XG.callSp (r := some (.int (mnF (itN (leF (va_up a 55 R) lv (S.1 24) (S.1 31)) (bR a lv (S.1 24) (S.1 31) R (nI 0)) i) (bR a lv (S.1 24) (S.1 31) R (nI (1 + i)))))) eX4_leastBorne_27 kl_X4_66 (con_min (d - 1) (itN (leF (va_up a 55 R) lv (S.1 24) (S.1 31)) (bR a lv (S.1 24) (S.1 31) R (nI 0)) i) (bR a lv (S.1 24) (S.1 31) R (nI (1 + i)))) (px_fitS (by omega)) rfl rfl rfl rfl (Nat.le_of_ble_eq_true rfl) ?_
      have q3 : ((nI (1 + i)) + (nI 1)) = (nI ((1 + i) + 1)) := px_eadd rfl rfl
      refine XG.blk tX4_leastBorne_ok 18 2 (pc' := 34) (pl' := [some (.ref 0), some (.ref 17), some (.int (mnF (itN (leF (va_up a 55 R) lv (S.1 24) (S.1 31)) (bR a lv (S.1 24) (S.1 31) R (nI 0)) i) (bR a lv (S.1 24) (S.1 31) R (nI (1 + i))))), some (.int ((nI (1 + i)) + (nI 1)))]) (st' := []) (W1 := (rW se2 tv (va_up ta 22 sk2) tb nv na)) (bs := []) rfl rfl rfl ?_
      simp only [q3]
      refine XG.goto eX4_leastBorne_34 (tgt := 9) (by decide) ?_
      rw [Nat.add_assoc, show mnF (itN (leF (va_up a 55 R) lv (S.1 24) (S.1 31)) (bR a lv (S.1 24) (S.1 31) R (nI 0)) i) (bR a lv (S.1 24) (S.1 31) R (nI (1 + i))) = (itN (leF (va_up a 55 R) lv (S.1 24) (S.1 31)) (bR a lv (S.1 24) (S.1 31) R (nI 0)) (i + 1)) from ?_]
      · exact ihi _ _
      · show (if _ < _ then _ else _) = (if _ ≤ _ then _ else _)
        by_cases hle : (itN (leF (va_up a 55 R) lv (S.1 24) (S.1 31)) (bR a lv (S.1 24) (S.1 31) R (nI 0)) i) ≤ bR a lv (S.1 24) (S.1 31) R (nI (1 + i))
        · rw [if_neg (Int32.not_lt.mpr hle)]; exact (if_pos hle).symm
        · rw [if_pos (Int32.not_le.mp hle)]; exact (if_neg hle).symm
set_option maxHeartbeats 400000 in
theorem cc_allDreams (d : Nat) (se : Nat → Int32) (tv : Nat → Int32) (ta : Nat → Nat → Int32) (tb : Nat → Nat → Int64) (nv : Nat → Int32) (na : Nat → Nat → Int32) (S : SD) (lv : Nat) (a : Nat → Nat → Int32) (hX : CX S lv a tv ta) (R : Nat → Int32) (hN : CNt S R nv na) (hd : 2 ≤ d) : Con mX4_allDreams d [.ref 0, .ref 17] (rW se tv ta tb nv na) (fun r W' => W' = rW se tv ta tb nv na ∧ r = some (.int (drA R (nI (S.1 35)) (a 29) lv (S.1 24) (S.1 23)))) := by
  obtain ⟨hcr, hcr2⟩ := hX.cr
  obtain ⟨hsl, hsl2⟩ := hX.sl
  obtain ⟨hsp, hsp1, hsp2⟩ := hX.sp
  have hWh := hN.2.2.2.2.2.2
  have hm : ∀ p, mOn S R p < 64 := fun p => mOn_64 hsl2
  refine Con.of (by decide) (Nat.le_of_ble_eq_true rfl) ?_
  refine XG.blk tX4_allDreams_ok 0 4 (pc' := 4) (pl' := [some (.ref 0), some (.ref 17), some (.int (nI 0)), some (.int (nI 0))]) (st' := []) (W1 := (rW se tv ta tb nv na)) (bs := []) rfl rfl rfl ?_
  refine px_for (S.1 23) (fun i => XG mX4_allDreams _ 0 0 4 [some (.ref 0), some (.ref 17), some (.int (drA R (nI (S.1 35)) (a 29) lv (S.1 24) i)), some (.int (nI i))] [] (rW se tv ta tb nv na)) ?_ ?_ 0 (Nat.zero_le _)
  · skip
    have q1 : (tv 0) = (nI (S.1 23)) := hsp
    refine XG.blk tX4_allDreams_ok 4 4 (pc' := 12) (pl' := [some (.ref 0), some (.ref 17), some (.int (drA R (nI (S.1 35)) (a 29) lv (S.1 24) (S.1 23))), some (.int (nI (S.1 23)))]) (st' := [(.int (tv 0)), (.int (nI (S.1 23)))]) (W1 := (rW se tv ta tb nv na)) (bs := []) rfl rfl rfl ?_
    simp only [q1]
    refine XG.br eX4_allDreams_12 (P := (nI (S.1 23)) ≤ (nI (S.1 23))) (r := []) rfl (tgt := 33) (by decide) (fun h12 => ?_) (fun h12 => ?_)
    · skip
      have g12 : (S.1 23) ≤ (S.1 23) := (nI_leI (a := (S.1 23)) (b := (S.1 23)) (by omega) (by omega)).mp h12
      refine XG.blk tX4_allDreams_ok 19 1 (pc' := 34) (pl' := [some (.ref 0), some (.ref 17), some (.int (drA R (nI (S.1 35)) (a 29) lv (S.1 24) (S.1 23))), some (.int (nI (S.1 23)))]) (st' := [(.int (drA R (nI (S.1 35)) (a 29) lv (S.1 24) (S.1 23)))]) (W1 := (rW se tv ta tb nv na)) (bs := []) rfl rfl rfl ?_
      refine XS.iret eX4_allDreams_34 rfl rfl ?_
      exact ⟨rfl, rfl⟩
    · exfalso
      have g12 : ¬ (S.1 23) ≤ (S.1 23) := (fun z => h12 ((nI_leI (a := (S.1 23)) (b := (S.1 23)) (by omega) (by omega)).mpr z))
      omega
  · intro i hi ihi
    have q2 : (tv 0) = (nI (S.1 23)) := hsp
    refine XG.blk tX4_allDreams_ok 4 4 (pc' := 12) (pl' := [some (.ref 0), some (.ref 17), some (.int (drA R (nI (S.1 35)) (a 29) lv (S.1 24) i)), some (.int (nI i))]) (st' := [(.int (tv 0)), (.int (nI i))]) (W1 := (rW se tv ta tb nv na)) (bs := []) rfl rfl rfl ?_
    simp only [q2]
    refine XG.br eX4_allDreams_12 (P := (nI (S.1 23)) ≤ (nI i)) (r := []) rfl (tgt := 33) (by decide) (fun h12 => ?_) (fun h12 => ?_)
    · exfalso
      have g12 : (S.1 23) ≤ i := (nI_leI (a := (S.1 23)) (b := i) (by omega) (by omega)).mp h12
      omega
    · skip
      have g12 : ¬ (S.1 23) ≤ i := (fun z => h12 ((nI_leI (a := (S.1 23)) (b := i) (by omega) (by omega)).mpr z))
      refine XG.blk tX4_allDreams_ok 9 4 (pc' := 19) (pl' := [some (.ref 0), some (.ref 17), some (.int (drA R (nI (S.1 35)) (a 29) lv (S.1 24) i)), some (.int (nI i))]) (st' := [(.int (nI i)), (.ref 17), (.ref 0), (.int (drA R (nI (S.1 35)) (a 29) lv (S.1 24) i))]) (W1 := (rW se tv ta tb nv na)) (bs := []) rfl rfl rfl ?_
      refine XG.callV (ro := [17, 18, 19, 20, 21]) (W1 := (nW nv na)) eX4_allDreams_19 kl_X4_51 (cc_asleepOn (d - 1) nv na S hsl2 R hN (nI i)) (px_fitS (by omega)) rfl ⟨rfl, by decide, by decide⟩ rfl rfl (Nat.le_of_ble_eq_true rfl) (fun r9 W9 hp9 hl9 => ?_)
      obtain ⟨rfl, rfl⟩ := hp9
      show XG _ _ _ _ _ _ [(.int (nI (mOn S R (nI i)))), (.ref 0), (.int (drA R (nI (S.1 35)) (a 29) lv (S.1 24) i))] (rW se tv ta tb nv na)
      refine XG.callV0 eX4_allDreams_22 kl_X4_55 (cc_pairsIn (d - 1) se tv ta tb nv na S lv a hX (mOn S R (nI i)) (hm _)) (px_fitS (by omega)) rfl rfl rfl (Nat.le_of_ble_eq_true rfl) (fun r9 W9 hp9 hl9 => ?_)
      obtain ⟨rfl, rfl⟩ := hp9
      have q3 : ((nI i) + (nI 1)) = (nI (i + 1)) := px_eadd rfl rfl
      refine XG.blk tX4_allDreams_ok 15 3 (pc' := 30) (pl' := [some (.ref 0), some (.ref 17), some (.int ((drA R (nI (S.1 35)) (a 29) lv (S.1 24) i) + (nI (prC S.2.2.2.1 (mOn S R (nI i)) (S.1 30))))), some (.int ((nI i) + (nI 1)))]) (st' := []) (W1 := (rW se tv ta tb nv na)) (bs := []) rfl rfl rfl ?_
      simp only [q3]
      refine XG.goto eX4_allDreams_30 (tgt := 4) (by decide) ?_
      rw [← dr_prC hX.1 hX.2.1 hX.2.2.1]; exact ihi
