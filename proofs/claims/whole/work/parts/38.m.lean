/-! the reference: what a sleeper holds, what a span bears, the weakest span -/
def hN (a : Nat → Nat → Int32) (lv sl cr x : Nat) : Int32 := if slp (a 55) (a 35 lv) x then askV a lv sl cr 0 x (a 55 x) (nI 0) (nI 99) else 0
def wf3 (a : Nat → Nat → Int32) (lv : Nat) : Prop := ∀ k, k < 3 → wfL a (3 * lv + k)
set_option maxHeartbeats 400000 in
theorem con_holdsNow (d : Nat) (v0 v : Nat → Int32) (a0 a : Nat → Nat → Int32) (b : Nat → Nat → Int64) (hJ : J v0 v a0 a) (lv sp sl cr : Nat) (I0 : MI v0 a0 lv sp sl cr) (hw3 : wf3 a0 lv) (x : Nat) (hx : x < sl) (hd : 4 ≤ d) : Con mX9_holdsNow d [.ref 0, .int (nI x)] (mW v a b) (fun r W' => ∃ v' a', W' = mW v' a' b ∧ J v0 v' a0 a' ∧ r = some (.int (hN a0 lv sl cr x))) := by
  have I := hJ.MI I0
  obtain ⟨hlv, hlv2, hsp, hsp1, hsp2, hsl, hsl2, hcr, hcr2⟩ := id I
  refine Con.of (by decide) (Nat.le_of_ble_eq_true rfl) ?_
  have e55 := hJ.2 55 (by decide)
  have e35 := hJ.2 35 (by decide)
  refine XG.blk tX9_holdsNow_ok 0 2 (pc' := 2) (pl' := [some (.ref 0), some (.int (nI x))]) (st' := [(.int (nI x)), (.ref 0)]) (W1 := (mW v a b)) (bs := []) rfl rfl rfl ?_
  refine XG.callV0 eX9_holdsNow_2 kl_X9_348 (con_isAsleep (d - 1) v a b x (by omega) _ _ _ _ I) (px_fitS (by omega)) rfl rfl rfl (Nat.le_of_ble_eq_true rfl) (fun r9 W9 hp9 hl9 => ?_)
  obtain ⟨rfl, rfl⟩ := hp9
  refine XG.br eX9_holdsNow_5 (P := (if slp (a 55) (a 35 lv) x then 1 else 0) = 0) (r := []) rfl (tgt := 26) (by decide) (fun h5 => ?_) (fun h5 => ?_)
  · skip
    refine XG.blk tX9_holdsNow_ok 15 1 (pc' := 27) (pl' := [some (.ref 0), some (.int (nI x))]) (st' := [(.int (nI 0))]) (W1 := (mW v a b)) (bs := []) rfl rfl rfl ?_
    refine XS.iret eX9_holdsNow_27 rfl rfl ?_
    exact ⟨_, _, rfl, hJ, by unfold hN; rw [← e55, ← e35, if_neg (one_ne.mp h5)]; rfl⟩
  · skip
    have q1 : (nI x).toNatClampNeg = x := nI_clamp (by omega)
    refine XG.blk tX9_holdsNow_ok 4 9 (pc' := 20) (pl' := [some (.ref 0), some (.int (nI x))]) (st' := [(.int (nI 99)), (.int (nI 0)), (.int ((a 55) (nI x).toNatClampNeg)), (.int (nI x)), (.int (nI 0)), (.ref 0)]) (W1 := (mW v a b)) (bs := [px_vb (nI x) 32]) rfl rfl (by (try simp only [q1]); exact (px_all (px_vbN (by omega) (by decide)) rfl)) ?_
    simp only [q1]
    refine XG.callV0 eX9_holdsNow_20 kl_X9_369 (con_asks (d - 1) v0 v a0 a b hJ lv sp sl cr I0 0 x ((a 55) x) (nI 0) (nI 99) (by omega) (by omega) (hw3 0 (by omega)) (by omega)) (px_fitS (by omega)) rfl rfl rfl (Nat.le_of_ble_eq_true rfl) (fun r9 W9 hp9 hl9 => ?_)
    obtain ⟨v1, a1, rfl, hJ1, rfl⟩ := hp9
    refine XG.goto eX9_holdsNow_23 (tgt := 27) (by decide) ?_
    refine XS.iret eX9_holdsNow_27 rfl rfl ?_
    exact ⟨_, _, rfl, hJ1, by unfold hN; rw [← e55, ← e35, if_pos (Decidable.not_not.mp (fun z => h5 (one_ne.mpr z)))]⟩
def brF (a : Nat → Nat → Int32) (lv sl cr : Nat) (p : Int32) : Nat → Int32 → Int32 := fun x s => if a 55 (12 + x) = p then s + hN a lv sl cr x else s
def bears (a : Nat → Nat → Int32) (lv sl cr : Nat) (p : Int32) : Int32 := itN (brF a lv sl cr p) (a 36 lv * itN (drO (a 55) (a 35 lv) (a 29) lv p) 0 sl) sl
set_option maxHeartbeats 400000 in
theorem con_bearsNow (d : Nat) (v0 v : Nat → Int32) (a0 a : Nat → Nat → Int32) (b : Nat → Nat → Int64) (hJ : J v0 v a0 a) (lv sp sl cr : Nat) (I0 : MI v0 a0 lv sp sl cr) (hw3 : wf3 a0 lv) (p : Int32) (hd : 5 ≤ d) : Con mX9_bearsNow d [.ref 0, .int p] (mW v a b) (fun r W' => ∃ v' a', W' = mW v' a' b ∧ J v0 v' a0 a' ∧ r = some (.int (bears a0 lv sl cr p))) := by
  have I := hJ.MI I0
  obtain ⟨hlv, hlv2, hsp, hsp1, hsp2, hsl, hsl2, hcr, hcr2⟩ := id I
  refine Con.of (by decide) (Nat.le_of_ble_eq_true rfl) ?_
  have e55 := hJ.2 55 (by decide)
  have e35 := hJ.2 35 (by decide)
  have e36 := hJ.2 36 (by decide)
  have e29 := hJ.2 29 (by decide)
  have q1 : (v 18) = (nI lv) := hlv
  have q2 : (nI lv).toNatClampNeg = lv := nI_clamp (by omega)
  refine XG.blk tX9_bearsNow_ok 0 7 (pc' := 11) (pl' := [some (.ref 0), some (.int p), none, none]) (st' := [(.int p), (.ref 0), (.int ((a 36) (v 18).toNatClampNeg))]) (W1 := (mW v a b)) (bs := [px_vb (v 18) 2]) rfl rfl (by (try simp only [q1, q2]); exact (px_all (px_vbN (by omega) (by decide)) rfl)) ?_
  simp only [q1, q2]
  refine XG.callV0 eX9_bearsNow_11 kl_X9_373 (con_dreamsOn (d - 1) v a b p _ _ _ _ I (by omega)) (px_fitS (by omega)) rfl rfl rfl (Nat.le_of_ble_eq_true rfl) (fun r9 W9 hp9 hl9 => ?_)
  obtain ⟨rfl, rfl⟩ := hp9
  refine XG.blk tX9_bearsNow_ok 8 4 (pc' := 18) (pl' := [some (.ref 0), some (.int p), some (.int (((a 36) lv) * (itN (drO (a 55) (a 35 lv) (a 29) lv p) 0 sl))), some (.int (nI 0))]) (st' := []) (W1 := (mW v a b)) (bs := []) rfl rfl rfl ?_
  rw [e36, e55, e35, e29]
  refine px_for sl (fun i => ∀ (v9 : Nat → Int32) (a9 : Nat → Nat → Int32) (hJ9 : J v0 v9 a0 a9), XG mX9_bearsNow _ 0 0 18 [some (.ref 0), some (.int p), some (.int (itN (brF a0 lv sl cr p) (a0 36 lv * itN (drO (a0 55) (a0 35 lv) (a0 29) lv p) 0 sl) i)), some (.int (nI i))] [] (mW v9 a9 b)) ?_ ?_ 0 (by omega) v a hJ
  · intro v9 a9 hJ9
    have I9 := hJ9.MI I0
    obtain ⟨hlv9, -, hsp9, -, -, hsl9, -, hcr9, -⟩ := id I9
    have q3 : (v9 18) = (nI lv) := hlv9
    have q4 : (nI lv).toNatClampNeg = lv := nI_clamp (by omega)
    have q5 : ((a9 24) lv) = (nI sl) := hsl9
    refine XG.blk tX9_bearsNow_ok 12 6 (pc' := 28) (pl' := [some (.ref 0), some (.int p), some (.int (itN (brF a0 lv sl cr p) (a0 36 lv * itN (drO (a0 55) (a0 35 lv) (a0 29) lv p) 0 sl) sl)), some (.int (nI sl))]) (st' := [(.int ((a9 24) (v9 18).toNatClampNeg)), (.int (nI sl))]) (W1 := (mW v9 a9 b)) (bs := [px_vb (v9 18) 2]) rfl rfl (by (try simp only [q3, q4, q5]); exact (px_all (px_vbN (by omega) (by decide)) rfl)) ?_
    simp only [q3, q4, q5]
    refine XG.br eX9_bearsNow_28 (P := (nI sl) ≤ (nI sl)) (r := []) rfl (tgt := 58) (by decide) (fun h28 => ?_) (fun h28 => ?_)
    · skip
      have g28 : sl ≤ sl := (nI_leI (a := sl) (b := sl) (by omega) (by omega)).mp h28
      refine XG.blk tX9_bearsNow_ok 35 1 (pc' := 59) (pl' := [some (.ref 0), some (.int p), some (.int (itN (brF a0 lv sl cr p) (a0 36 lv * itN (drO (a0 55) (a0 35 lv) (a0 29) lv p) 0 sl) sl)), some (.int (nI sl))]) (st' := [(.int (itN (brF a0 lv sl cr p) (a0 36 lv * itN (drO (a0 55) (a0 35 lv) (a0 29) lv p) 0 sl) sl))]) (W1 := (mW v9 a9 b)) (bs := []) rfl rfl rfl ?_
      refine XS.iret eX9_bearsNow_59 rfl rfl ?_
      exact ⟨_, _, rfl, hJ9, rfl⟩
    · exfalso
      have g28 : ¬ sl ≤ sl := (fun z => h28 ((nI_leI (a := sl) (b := sl) (by omega) (by omega)).mpr z))
      omega
  · intro i hi ihi v9 a9 hJ9
    have I9 := hJ9.MI I0
    obtain ⟨hlv9, -, hsp9, -, -, hsl9, -, hcr9, -⟩ := id I9
    have q6 : (v9 18) = (nI lv) := hlv9
    have q7 : (nI lv).toNatClampNeg = lv := nI_clamp (by omega)
    have q8 : ((a9 24) lv) = (nI sl) := hsl9
    refine XG.blk tX9_bearsNow_ok 12 6 (pc' := 28) (pl' := [some (.ref 0), some (.int p), some (.int (itN (brF a0 lv sl cr p) (a0 36 lv * itN (drO (a0 55) (a0 35 lv) (a0 29) lv p) 0 sl) i)), some (.int (nI i))]) (st' := [(.int ((a9 24) (v9 18).toNatClampNeg)), (.int (nI i))]) (W1 := (mW v9 a9 b)) (bs := [px_vb (v9 18) 2]) rfl rfl (by (try simp only [q6, q7, q8]); exact (px_all (px_vbN (by omega) (by decide)) rfl)) ?_
    simp only [q6, q7, q8]
    refine XG.br eX9_bearsNow_28 (P := (nI sl) ≤ (nI i)) (r := []) rfl (tgt := 58) (by decide) (fun h28 => ?_) (fun h28 => ?_)
    · exfalso
      have g28 : sl ≤ i := (nI_leI (a := sl) (b := i) (by omega) (by omega)).mp h28
      omega
    · skip
      have g28 : ¬ sl ≤ i := (fun z => h28 ((nI_leI (a := sl) (b := i) (by omega) (by omega)).mpr z))
      have q9 : ((nI 12) + (nI i)) = (nI (12 + i)) := px_eadd rfl rfl
      have q10 : (a9 55) = (a0 55) := hJ9.2 55 (by decide)
      have q11 : (nI (12 + i)).toNatClampNeg = (12 + i) := nI_clamp (by omega)
      refine XG.blk tX9_bearsNow_ok 19 7 (pc' := 41) (pl' := [some (.ref 0), some (.int p), some (.int (itN (brF a0 lv sl cr p) (a0 36 lv * itN (drO (a0 55) (a0 35 lv) (a0 29) lv p) 0 sl) i)), some (.int (nI i))]) (st' := [(.int p), (.int ((a9 55) ((nI 12) + (nI i)).toNatClampNeg))]) (W1 := (mW v9 a9 b)) (bs := [px_vb ((nI 12) + (nI i)) 32]) rfl rfl (by (try simp only [q9, q10, q11]); exact (px_all (px_vbN (by omega) (by decide)) rfl)) ?_
      simp only [q9, q10, q11]
      refine XG.br eX9_bearsNow_41 (P := ¬ ((a0 55) (12 + i)) = p) (r := []) rfl (tgt := 52) (by decide) (fun h41 => ?_) (fun h41 => ?_)
      · skip
        have q12 : ((nI i) + (nI 1)) = (nI (i + 1)) := px_eadd rfl rfl
        refine XG.blk tX9_bearsNow_ok 33 1 (pc' := 55) (pl' := [some (.ref 0), some (.int p), some (.int (itN (brF a0 lv sl cr p) (a0 36 lv * itN (drO (a0 55) (a0 35 lv) (a0 29) lv p) 0 sl) i)), some (.int ((nI i) + (nI 1)))]) (st' := []) (W1 := (mW v9 a9 b)) (bs := []) rfl rfl rfl ?_
        simp only [q12]
        refine XG.goto eX9_bearsNow_55 (tgt := 18) (by decide) ?_
        rw [show (itN (brF a0 lv sl cr p) (a0 36 lv * itN (drO (a0 55) (a0 35 lv) (a0 29) lv p) 0 sl) (i + 1)) = (itN (brF a0 lv sl cr p) (a0 36 lv * itN (drO (a0 55) (a0 35 lv) (a0 29) lv p) 0 sl) i) from if_neg h41] at ihi; exact ihi v9 a9 hJ9
      · skip
        have h41 := Decidable.not_not.mp h41
        refine XG.blk tX9_bearsNow_ok 27 3 (pc' := 47) (pl' := [some (.ref 0), some (.int p), some (.int (itN (brF a0 lv sl cr p) (a0 36 lv * itN (drO (a0 55) (a0 35 lv) (a0 29) lv p) 0 sl) i)), some (.int (nI i))]) (st' := [(.int (nI i)), (.ref 0), (.int (itN (brF a0 lv sl cr p) (a0 36 lv * itN (drO (a0 55) (a0 35 lv) (a0 29) lv p) 0 sl) i))]) (W1 := (mW v9 a9 b)) (bs := []) rfl rfl rfl ?_
        refine XG.callV0 eX9_bearsNow_47 kl_X9_376 (con_holdsNow (d - 1) v0 v9 a0 a9 b hJ9 lv sp sl cr I0 hw3 i (by omega) (by omega)) (px_fitS (by omega)) rfl rfl rfl (Nat.le_of_ble_eq_true rfl) (fun r9 W9 hp9 hl9 => ?_)
        obtain ⟨v1, a1, rfl, hJ1, rfl⟩ := hp9
        have q13 : ((nI i) + (nI 1)) = (nI (i + 1)) := px_eadd rfl rfl
        refine XG.blk tX9_bearsNow_ok 31 3 (pc' := 55) (pl' := [some (.ref 0), some (.int p), some (.int ((itN (brF a0 lv sl cr p) (a0 36 lv * itN (drO (a0 55) (a0 35 lv) (a0 29) lv p) 0 sl) i) + (hN a0 lv sl cr i))), some (.int ((nI i) + (nI 1)))]) (st' := []) (W1 := (mW v1 a1 b)) (bs := []) rfl rfl rfl ?_
        simp only [q13]
        refine XG.goto eX9_bearsNow_55 (tgt := 18) (by decide) ?_
        rw [show (itN (brF a0 lv sl cr p) (a0 36 lv * itN (drO (a0 55) (a0 35 lv) (a0 29) lv p) 0 sl) (i + 1)) = (itN (brF a0 lv sl cr p) (a0 36 lv * itN (drO (a0 55) (a0 35 lv) (a0 29) lv p) 0 sl) i) + hN a0 lv sl cr i from if_pos h41] at ihi; exact ihi v1 a1 hJ1
def leF (a : Nat → Nat → Int32) (lv sl cr : Nat) : Nat → Int32 → Int32 := fun i m => if m ≤ bears a lv sl cr (nI (1 + i)) then m else bears a lv sl cr (nI (1 + i))
def least (a : Nat → Nat → Int32) (lv sp sl cr : Nat) : Int32 := itN (leF a lv sl cr) (bears a lv sl cr (nI 0)) (sp - 1)
set_option maxHeartbeats 400000 in
theorem con_leastNow (d : Nat) (v0 v : Nat → Int32) (a0 a : Nat → Nat → Int32) (b : Nat → Nat → Int64) (hJ : J v0 v a0 a) (lv sp sl cr : Nat) (I0 : MI v0 a0 lv sp sl cr) (hw3 : wf3 a0 lv) (hd : 6 ≤ d) : Con mX9_leastNow d [.ref 0] (mW v a b) (fun r W' => ∃ v' a', W' = mW v' a' b ∧ J v0 v' a0 a' ∧ r = some (.int (least a0 lv sp sl cr))) := by
  have I := hJ.MI I0
  obtain ⟨hlv, hlv2, hsp, hsp1, hsp2, hsl, hsl2, hcr, hcr2⟩ := id I
  refine Con.of (by decide) (Nat.le_of_ble_eq_true rfl) ?_
  refine XG.blk tX9_leastNow_ok 0 2 (pc' := 2) (pl' := [some (.ref 0), none, none, none]) (st' := [(.int (nI 0)), (.ref 0)]) (W1 := (mW v a b)) (bs := []) rfl rfl rfl ?_
  refine XG.callV0 eX9_leastNow_2 kl_X9_379 (con_bearsNow (d - 1) v0 v a0 a b hJ lv sp sl cr I0 hw3 (nI 0) (by omega)) (px_fitS (by omega)) rfl rfl rfl (Nat.le_of_ble_eq_true rfl) (fun r9 W9 hp9 hl9 => ?_)
  obtain ⟨v1, a1, rfl, hJ1, rfl⟩ := hp9
  refine XG.blk tX9_leastNow_ok 3 3 (pc' := 8) (pl' := [some (.ref 0), some (.int (bears a0 lv sl cr (nI 0))), some (.int (nI 1)), none]) (st' := []) (W1 := (mW v1 a1 b)) (bs := []) rfl rfl rfl ?_
  refine px_for (sp - 1) (fun i => ∀ (v9 : Nat → Int32) (a9 : Nat → Nat → Int32) (hJ9 : J v0 v9 a0 a9), XG mX9_leastNow _ 0 0 8 [some (.ref 0), some (.int (itN (leF a0 lv sl cr) (bears a0 lv sl cr (nI 0)) i)), some (.int (nI (1 + i))), none] [] (mW v9 a9 b)) ?_ ?_ 0 (by omega) _ _ hJ1
  · intro v9 a9 hJ9
    have I9 := hJ9.MI I0
    obtain ⟨hlv9, -, hsp9, -, -, hsl9, -, hcr9, -⟩ := id I9
    have q1 : (v9 18) = (nI lv) := hlv9
    have q2 : (nI lv).toNatClampNeg = lv := nI_clamp (by omega)
    have q3 : ((a9 23) lv) = (nI sp) := hsp9
    refine XG.blk tX9_leastNow_ok 6 6 (pc' := 18) (pl' := [some (.ref 0), some (.int (itN (leF a0 lv sl cr) (bears a0 lv sl cr (nI 0)) (sp - 1))), some (.int (nI (1 + (sp - 1)))), none]) (st' := [(.int ((a9 23) (v9 18).toNatClampNeg)), (.int (nI (1 + (sp - 1))))]) (W1 := (mW v9 a9 b)) (bs := [px_vb (v9 18) 2]) rfl rfl (by (try simp only [q1, q2, q3]); exact (px_all (px_vbN (by omega) (by decide)) rfl)) ?_
    simp only [q1, q2, q3]
    refine XG.br eX9_leastNow_18 (P := (nI sp) ≤ (nI (1 + (sp - 1)))) (r := []) rfl (tgt := 40) (by decide) (fun h18 => ?_) (fun h18 => ?_)
    · skip
      have g18 : sp ≤ (1 + (sp - 1)) := (nI_leI (a := sp) (b := (1 + (sp - 1))) (by omega) (by omega)).mp h18
      refine XG.blk tX9_leastNow_ok 24 1 (pc' := 41) (pl' := [some (.ref 0), some (.int (itN (leF a0 lv sl cr) (bears a0 lv sl cr (nI 0)) (sp - 1))), some (.int (nI (1 + (sp - 1)))), none]) (st' := [(.int (itN (leF a0 lv sl cr) (bears a0 lv sl cr (nI 0)) (sp - 1)))]) (W1 := (mW v9 a9 b)) (bs := []) rfl rfl rfl ?_
      refine XS.iret eX9_leastNow_41 rfl rfl ?_
      exact ⟨_, _, rfl, hJ9, rfl⟩
    · exfalso
      have g18 : ¬ sp ≤ (1 + (sp - 1)) := (fun z => h18 ((nI_leI (a := sp) (b := (1 + (sp - 1))) (by omega) (by omega)).mpr z))
      omega
  · intro i hi ihi v9 a9 hJ9
    have I9 := hJ9.MI I0
    obtain ⟨hlv9, -, hsp9, -, -, hsl9, -, hcr9, -⟩ := id I9
    have q4 : (v9 18) = (nI lv) := hlv9
    have q5 : (nI lv).toNatClampNeg = lv := nI_clamp (by omega)
    have q6 : ((a9 23) lv) = (nI sp) := hsp9
    refine XG.blk tX9_leastNow_ok 6 6 (pc' := 18) (pl' := [some (.ref 0), some (.int (itN (leF a0 lv sl cr) (bears a0 lv sl cr (nI 0)) i)), some (.int (nI (1 + i))), none]) (st' := [(.int ((a9 23) (v9 18).toNatClampNeg)), (.int (nI (1 + i)))]) (W1 := (mW v9 a9 b)) (bs := [px_vb (v9 18) 2]) rfl rfl (by (try simp only [q4, q5, q6]); exact (px_all (px_vbN (by omega) (by decide)) rfl)) ?_
    simp only [q4, q5, q6]
    refine XG.br eX9_leastNow_18 (P := (nI sp) ≤ (nI (1 + i))) (r := []) rfl (tgt := 40) (by decide) (fun h18 => ?_) (fun h18 => ?_)
    · exfalso
      have g18 : sp ≤ (1 + i) := (nI_leI (a := sp) (b := (1 + i)) (by omega) (by omega)).mp h18
      omega
    · skip
      have g18 : ¬ sp ≤ (1 + i) := (fun z => h18 ((nI_leI (a := sp) (b := (1 + i)) (by omega) (by omega)).mpr z))
      refine XG.blk tX9_leastNow_ok 13 2 (pc' := 23) (pl' := [some (.ref 0), some (.int (itN (leF a0 lv sl cr) (bears a0 lv sl cr (nI 0)) i)), some (.int (nI (1 + i))), none]) (st' := [(.int (nI (1 + i))), (.ref 0)]) (W1 := (mW v9 a9 b)) (bs := []) rfl rfl rfl ?_
      refine XG.callV0 eX9_leastNow_23 kl_X9_379 (con_bearsNow (d - 1) v0 v9 a0 a9 b hJ9 lv sp sl cr I0 hw3 (nI (1 + i)) (by omega)) (px_fitS (by omega)) rfl rfl rfl (Nat.le_of_ble_eq_true rfl) (fun r9 W9 hp9 hl9 => ?_)
      obtain ⟨v2, a2, rfl, hJ2, rfl⟩ := hp9
      refine XG.blk tX9_leastNow_ok 16 3 (pc' := 29) (pl' := [some (.ref 0), some (.int (itN (leF a0 lv sl cr) (bears a0 lv sl cr (nI 0)) i)), some (.int (nI (1 + i))), some (.int (bears a0 lv sl cr (nI (1 + i))))]) (st' := [(.int (itN (leF a0 lv sl cr) (bears a0 lv sl cr (nI 0)) i)), (.int (bears a0 lv sl cr (nI (1 + i))))]) (W1 := (mW v2 a2 b)) (bs := []) rfl rfl rfl ?_
      refine XG.br eX9_leastNow_29 (P := (itN (leF a0 lv sl cr) (bears a0 lv sl cr (nI 0)) i) ≤ (bears a0 lv sl cr (nI (1 + i)))) (r := []) rfl (tgt := 34) (by decide) (fun h29 => ?_) (fun h29 => ?_)
      · skip
        have q7 : ((nI (1 + i)) + (nI 1)) = (nI ((1 + i) + 1)) := px_eadd rfl rfl
        refine XG.blk tX9_leastNow_ok 22 1 (pc' := 37) (pl' := [some (.ref 0), some (.int (itN (leF a0 lv sl cr) (bears a0 lv sl cr (nI 0)) i)), some (.int ((nI (1 + i)) + (nI 1))), some (.int (bears a0 lv sl cr (nI (1 + i))))]) (st' := []) (W1 := (mW v2 a2 b)) (bs := []) rfl rfl rfl ?_
        simp only [q7]
        refine XG.goto eX9_leastNow_37 (tgt := 8) (by decide) ?_
        rw [show (itN (leF a0 lv sl cr) (bears a0 lv sl cr (nI 0)) (i + 1)) = (itN (leF a0 lv sl cr) (bears a0 lv sl cr (nI 0)) i) from if_pos h29] at ihi
        refine XG.weak (pl' := [some (.ref 0), some (.int (itN (leF a0 lv sl cr) (bears a0 lv sl cr (nI 0)) i)), some (.int (nI (1 + (i + 1)))), none]) ⟨rfl, rfl, rfl, trivial⟩ ?_
        exact ihi v2 a2 hJ2
      · skip
        have q8 : ((nI (1 + i)) + (nI 1)) = (nI ((1 + i) + 1)) := px_eadd rfl rfl
        refine XG.blk tX9_leastNow_ok 20 3 (pc' := 37) (pl' := [some (.ref 0), some (.int (bears a0 lv sl cr (nI (1 + i)))), some (.int ((nI (1 + i)) + (nI 1))), some (.int (bears a0 lv sl cr (nI (1 + i))))]) (st' := []) (W1 := (mW v2 a2 b)) (bs := []) rfl rfl rfl ?_
        simp only [q8]
        refine XG.goto eX9_leastNow_37 (tgt := 8) (by decide) ?_
        rw [show (itN (leF a0 lv sl cr) (bears a0 lv sl cr (nI 0)) (i + 1)) = bears a0 lv sl cr (nI (1 + i)) from if_neg h29] at ihi
        refine XG.weak (pl' := [some (.ref 0), some (.int (bears a0 lv sl cr (nI (1 + i)))), some (.int (nI (1 + (i + 1)))), none]) ⟨rfl, rfl, rfl, trivial⟩ ?_
        exact ihi v2 a2 hJ2
