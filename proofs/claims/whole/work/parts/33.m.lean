/-! the reference: noise, bits, rows -/
theorem va_up_id {α : Type} (f : Nat → α) (k : Nat) : va_up f k (f k) = f := by
  funext j; unfold va_up; split
  · next h => rw [h]
  · rfl
/-- the first n of f, then g -/
def cpF {α : Type} (f g : Nat → α) (n : Nat) : Nat → α := fun j => if j < n then f j else g j
theorem cpF_0 {α : Type} (f g : Nat → α) : cpF f g 0 = g := by funext j; unfold cpF; rw [if_neg (Nat.not_lt_zero j)]
theorem cpF_s (f g : Nat → Int32) (n : Nat) : upd (cpF f g n) n (f n) = cpF f g (n + 1) := by
  funext j; simp only [cpF, upd]
  by_cases h : j = n
  · subst h; rw [if_pos rfl, if_pos (Nat.lt_succ_self j)]
  · rw [if_neg h]
    by_cases h2 : j < n
    · rw [if_pos h2, if_pos (by omega)]
    · rw [if_neg h2, if_neg (by omega)]
def noiseF (row noise : Nat → Int32) (lv : Nat) : Nat → Int32 → Int32 := fun c s => if nI 0 ≤ row (18 + c) ∧ row (18 + c) ≤ nI 4 then s + noise (5 * lv + c) else s
set_option maxHeartbeats 400000 in
theorem con_noiseNow (d : Nat) (v : Nat → Int32) (a : Nat → Nat → Int32) (b : Nat → Nat → Int64) (lv sp sl cr : Nat) (I : MI v a lv sp sl cr) (hd : 1 ≤ d) : Con mX9_noiseNow d [.ref 0] (mW v a b) (fun r W' => W' = mW v a b ∧ r = some (.int (itN (noiseF (a 55) (a 33) lv) 0 cr))) := by
  obtain ⟨hlv, hlv2, hsp, hsp1, hsp2, hsl, hsl2, hcr, hcr2⟩ := id I
  refine Con.of (by decide) (Nat.le_of_ble_eq_true rfl) ?_
  refine XG.blk tX9_noiseNow_ok 0 4 (pc' := 4) (pl' := [some (.ref 0), some (.int (nI 0)), some (.int (nI 0))]) (st' := []) (W1 := (mW v a b)) (bs := []) rfl rfl rfl ?_
  refine px_for cr (fun i => XG mX9_noiseNow _ 0 0 4 [some (.ref 0), some (.int (itN (noiseF (a 55) (a 33) lv) 0 i)), some (.int (nI i))] [] (mW v a b)) ?_ ?_ 0 (by omega)
  · skip
    have q1 : (v 18) = (nI lv) := hlv
    have q2 : (nI lv).toNatClampNeg = lv := nI_clamp (by omega)
    have q3 : ((a 31) lv) = (nI cr) := hcr
    refine XG.blk tX9_noiseNow_ok 4 6 (pc' := 14) (pl' := [some (.ref 0), some (.int (itN (noiseF (a 55) (a 33) lv) 0 cr)), some (.int (nI cr))]) (st' := [(.int ((a 31) (v 18).toNatClampNeg)), (.int (nI cr))]) (W1 := (mW v a b)) (bs := [px_vb (v 18) 2]) rfl rfl (by (try simp only [q1, q2, q3]); exact (px_all (px_vbN (by omega) (by decide)) rfl)) ?_
    simp only [q1, q2, q3]
    refine XG.br eX9_noiseNow_14 (P := (nI cr) ≤ (nI cr)) (r := []) rfl (tgt := 56) (by decide) (fun h14 => ?_) (fun h14 => ?_)
    · skip
      have g14 : cr ≤ cr := (nI_leI (a := cr) (b := cr) (by omega) (by omega)).mp h14
      refine XG.blk tX9_noiseNow_ok 35 1 (pc' := 57) (pl' := [some (.ref 0), some (.int (itN (noiseF (a 55) (a 33) lv) 0 cr)), some (.int (nI cr))]) (st' := [(.int (itN (noiseF (a 55) (a 33) lv) 0 cr))]) (W1 := (mW v a b)) (bs := []) rfl rfl rfl ?_
      refine XS.iret eX9_noiseNow_57 rfl rfl ?_
      exact ⟨rfl, rfl⟩
    · exfalso
      have g14 : ¬ cr ≤ cr := (fun z => h14 ((nI_leI (a := cr) (b := cr) (by omega) (by omega)).mpr z))
      omega
  · intro i hi ihi
    have q4 : (v 18) = (nI lv) := hlv
    have q5 : (nI lv).toNatClampNeg = lv := nI_clamp (by omega)
    have q6 : ((a 31) lv) = (nI cr) := hcr
    refine XG.blk tX9_noiseNow_ok 4 6 (pc' := 14) (pl' := [some (.ref 0), some (.int (itN (noiseF (a 55) (a 33) lv) 0 i)), some (.int (nI i))]) (st' := [(.int ((a 31) (v 18).toNatClampNeg)), (.int (nI i))]) (W1 := (mW v a b)) (bs := [px_vb (v 18) 2]) rfl rfl (by (try simp only [q4, q5, q6]); exact (px_all (px_vbN (by omega) (by decide)) rfl)) ?_
    simp only [q4, q5, q6]
    refine XG.br eX9_noiseNow_14 (P := (nI cr) ≤ (nI i)) (r := []) rfl (tgt := 56) (by decide) (fun h14 => ?_) (fun h14 => ?_)
    · exfalso
      have g14 : cr ≤ i := (nI_leI (a := cr) (b := i) (by omega) (by omega)).mp h14
      omega
    · skip
      have g14 : ¬ cr ≤ i := (fun z => h14 ((nI_leI (a := cr) (b := i) (by omega) (by omega)).mpr z))
      have q7 : ((nI 18) + (nI i)) = (nI (18 + i)) := px_eadd rfl rfl
      have q8 : (nI (18 + i)).toNatClampNeg = (18 + i) := nI_clamp (by omega)
      refine XG.blk tX9_noiseNow_ok 11 8 (pc' := 28) (pl' := [some (.ref 0), some (.int (itN (noiseF (a 55) (a 33) lv) 0 i)), some (.int (nI i))]) (st' := [(.int (nI 4)), (.int (nI 0)), (.int ((a 55) ((nI 18) + (nI i)).toNatClampNeg))]) (W1 := (mW v a b)) (bs := [px_vb ((nI 18) + (nI i)) 32]) rfl rfl (by (try simp only [q7, q8]); exact (px_all (px_vbN (by omega) (by decide)) rfl)) ?_
      simp only [q7, q8]
      refine XG.callSp (r := some (.int (if (nI 0) ≤ ((a 55) (18 + i)) ∧ ((a 55) (18 + i)) ≤ (nI 4) then 1 else 0))) eX9_noiseNow_28 kl_X9_331 (con_in (d - 1) ((a 55) (18 + i)) (nI 0) (nI 4)) (px_fitS (by omega)) rfl rfl rfl rfl (Nat.le_of_ble_eq_true rfl) ?_
      refine XG.br eX9_noiseNow_31 (P := (if (nI 0) ≤ ((a 55) (18 + i)) ∧ ((a 55) (18 + i)) ≤ (nI 4) then 1 else 0) = 0) (r := []) rfl (tgt := 50) (by decide) (fun h31 => ?_) (fun h31 => ?_)
      · skip
        have q9 : ((nI i) + (nI 1)) = (nI (i + 1)) := px_eadd rfl rfl
        refine XG.blk tX9_noiseNow_ok 33 1 (pc' := 53) (pl' := [some (.ref 0), some (.int (itN (noiseF (a 55) (a 33) lv) 0 i)), some (.int ((nI i) + (nI 1)))]) (st' := []) (W1 := (mW v a b)) (bs := []) rfl rfl rfl ?_
        simp only [q9]
        refine XG.goto eX9_noiseNow_53 (tgt := 4) (by decide) ?_
        rw [show (itN (noiseF (a 55) (a 33) lv) 0 (i + 1)) = (itN (noiseF (a 55) (a 33) lv) 0 i) from if_neg (one_ne.mp h31)] at ihi; exact ihi
      · skip
        have q10 : (v 18) = (nI lv) := hlv
        have q11 : ((nI 5) * (nI lv)) = (nI (5 * lv)) := px_emul rfl rfl
        have q12 : ((nI (5 * lv)) + (nI i)) = (nI ((5 * lv) + i)) := px_eadd rfl rfl
        have q13 : (nI ((5 * lv) + i)).toNatClampNeg = ((5 * lv) + i) := nI_clamp (by omega)
        have q14 : ((nI i) + (nI 1)) = (nI (i + 1)) := px_eadd rfl rfl
        refine XG.blk tX9_noiseNow_ok 21 13 (pc' := 53) (pl' := [some (.ref 0), some (.int ((itN (noiseF (a 55) (a 33) lv) 0 i) + ((a 33) (((nI 5) * (v 18)) + (nI i)).toNatClampNeg))), some (.int ((nI i) + (nI 1)))]) (st' := []) (W1 := (mW v a b)) (bs := [px_vb (((nI 5) * (v 18)) + (nI i)) 10]) rfl rfl (by (try simp only [q10, q11, q12, q13, q14]); exact (px_all (px_vbN (by omega) (by decide)) rfl)) ?_
        simp only [q10, q11, q12, q13, q14]
        refine XG.goto eX9_noiseNow_53 (tgt := 4) (by decide) ?_
        rw [show (itN (noiseF (a 55) (a 33) lv) 0 (i + 1)) = (itN (noiseF (a 55) (a 33) lv) 0 i) + a 33 (5 * lv + i) from if_pos (Decidable.not_not.mp (fun z => h31 (one_ne.mpr z)))] at ihi; exact ihi
def asleepF (row : Nat → Int32) (dawn : Int32) : Nat → Int32 → Int32 := fun b s => if slp row dawn b then s ||| (nI 1 <<< (nI b &&& 31)) else s
set_option maxHeartbeats 400000 in
theorem con_asleepBits (d : Nat) (v : Nat → Int32) (a : Nat → Nat → Int32) (b : Nat → Nat → Int64) (lv sp sl cr : Nat) (I : MI v a lv sp sl cr) (hd : 1 ≤ d) : Con mX9_asleepBits d [.ref 0] (mW v a b) (fun r W' => W' = mW v a b ∧ r = some (.int (itN (asleepF (a 55) (a 35 lv)) 0 sl))) := by
  obtain ⟨hlv, hlv2, hsp, hsp1, hsp2, hsl, hsl2, hcr, hcr2⟩ := id I
  refine Con.of (by decide) (Nat.le_of_ble_eq_true rfl) ?_
  refine XG.blk tX9_asleepBits_ok 0 4 (pc' := 4) (pl' := [some (.ref 0), some (.int (nI 0)), some (.int (nI 0))]) (st' := []) (W1 := (mW v a b)) (bs := []) rfl rfl rfl ?_
  refine px_for sl (fun i => XG mX9_asleepBits _ 0 0 4 [some (.ref 0), some (.int (itN (asleepF (a 55) (a 35 lv)) 0 i)), some (.int (nI i))] [] (mW v a b)) ?_ ?_ 0 (by omega)
  · skip
    have q1 : (v 18) = (nI lv) := hlv
    have q2 : (nI lv).toNatClampNeg = lv := nI_clamp (by omega)
    have q3 : ((a 24) lv) = (nI sl) := hsl
    refine XG.blk tX9_asleepBits_ok 4 6 (pc' := 14) (pl' := [some (.ref 0), some (.int (itN (asleepF (a 55) (a 35 lv)) 0 sl)), some (.int (nI sl))]) (st' := [(.int ((a 24) (v 18).toNatClampNeg)), (.int (nI sl))]) (W1 := (mW v a b)) (bs := [px_vb (v 18) 2]) rfl rfl (by (try simp only [q1, q2, q3]); exact (px_all (px_vbN (by omega) (by decide)) rfl)) ?_
    simp only [q1, q2, q3]
    refine XG.br eX9_asleepBits_14 (P := (nI sl) ≤ (nI sl)) (r := []) rfl (tgt := 37) (by decide) (fun h14 => ?_) (fun h14 => ?_)
    · skip
      have g14 : sl ≤ sl := (nI_leI (a := sl) (b := sl) (by omega) (by omega)).mp h14
      refine XG.blk tX9_asleepBits_ok 23 1 (pc' := 38) (pl' := [some (.ref 0), some (.int (itN (asleepF (a 55) (a 35 lv)) 0 sl)), some (.int (nI sl))]) (st' := [(.int (itN (asleepF (a 55) (a 35 lv)) 0 sl))]) (W1 := (mW v a b)) (bs := []) rfl rfl rfl ?_
      refine XS.iret eX9_asleepBits_38 rfl rfl ?_
      exact ⟨rfl, rfl⟩
    · exfalso
      have g14 : ¬ sl ≤ sl := (fun z => h14 ((nI_leI (a := sl) (b := sl) (by omega) (by omega)).mpr z))
      omega
  · intro i hi ihi
    have q4 : (v 18) = (nI lv) := hlv
    have q5 : (nI lv).toNatClampNeg = lv := nI_clamp (by omega)
    have q6 : ((a 24) lv) = (nI sl) := hsl
    refine XG.blk tX9_asleepBits_ok 4 6 (pc' := 14) (pl' := [some (.ref 0), some (.int (itN (asleepF (a 55) (a 35 lv)) 0 i)), some (.int (nI i))]) (st' := [(.int ((a 24) (v 18).toNatClampNeg)), (.int (nI i))]) (W1 := (mW v a b)) (bs := [px_vb (v 18) 2]) rfl rfl (by (try simp only [q4, q5, q6]); exact (px_all (px_vbN (by omega) (by decide)) rfl)) ?_
    simp only [q4, q5, q6]
    refine XG.br eX9_asleepBits_14 (P := (nI sl) ≤ (nI i)) (r := []) rfl (tgt := 37) (by decide) (fun h14 => ?_) (fun h14 => ?_)
    · exfalso
      have g14 : sl ≤ i := (nI_leI (a := sl) (b := i) (by omega) (by omega)).mp h14
      omega
    · skip
      have g14 : ¬ sl ≤ i := (fun z => h14 ((nI_leI (a := sl) (b := i) (by omega) (by omega)).mpr z))
      refine XG.blk tX9_asleepBits_ok 11 2 (pc' := 19) (pl' := [some (.ref 0), some (.int (itN (asleepF (a 55) (a 35 lv)) 0 i)), some (.int (nI i))]) (st' := [(.int (nI i)), (.ref 0)]) (W1 := (mW v a b)) (bs := []) rfl rfl rfl ?_
      refine XG.callV0 eX9_asleepBits_19 kl_X9_348 (con_isAsleep (d - 1) v a b i (by omega) _ _ _ _ I) (px_fitS (by omega)) rfl rfl rfl (Nat.le_of_ble_eq_true rfl) (fun r9 W9 hp9 hl9 => ?_)
      obtain ⟨rfl, rfl⟩ := hp9
      refine XG.br eX9_asleepBits_22 (P := (if slp (a 55) ((a 35) lv) i then 1 else 0) = 0) (r := []) rfl (tgt := 31) (by decide) (fun h22 => ?_) (fun h22 => ?_)
      · skip
        have q7 : ((nI i) + (nI 1)) = (nI (i + 1)) := px_eadd rfl rfl
        refine XG.blk tX9_asleepBits_ok 21 1 (pc' := 34) (pl' := [some (.ref 0), some (.int (itN (asleepF (a 55) (a 35 lv)) 0 i)), some (.int ((nI i) + (nI 1)))]) (st' := []) (W1 := (mW v a b)) (bs := []) rfl rfl rfl ?_
        simp only [q7]
        refine XG.goto eX9_asleepBits_34 (tgt := 4) (by decide) ?_
        rw [show (itN (asleepF (a 55) (a 35 lv)) 0 (i + 1)) = (itN (asleepF (a 55) (a 35 lv)) 0 i) from if_neg (one_ne.mp h22)] at ihi; exact ihi
      · skip
        have q8 : ((nI i) + (nI 1)) = (nI (i + 1)) := px_eadd rfl rfl
        refine XG.blk tX9_asleepBits_ok 15 7 (pc' := 34) (pl' := [some (.ref 0), some (.int ((itN (asleepF (a 55) (a 35 lv)) 0 i) ||| ((nI 1) <<< ((nI i) &&& 31)))), some (.int ((nI i) + (nI 1)))]) (st' := []) (W1 := (mW v a b)) (bs := []) rfl rfl rfl ?_
        simp only [q8]
        refine XG.goto eX9_asleepBits_34 (tgt := 4) (by decide) ?_
        rw [show (itN (asleepF (a 55) (a 35 lv)) 0 (i + 1)) = (itN (asleepF (a 55) (a 35 lv)) 0 i) ||| (nI 1 <<< (nI i &&& 31)) from if_pos (Decidable.not_not.mp (fun z => h22 (one_ne.mpr z)))] at ihi; exact ihi
def bitsF (row : Nat → Int32) (fr : Nat) (so : Int32) : Nat → Int32 → Int32 := fun k s => if row (fr + k) = so then s ||| (nI 1 <<< (nI k &&& 31)) else s
set_option maxHeartbeats 400000 in
theorem con_bitsOf (d : Nat) (v : Nat → Int32) (a : Nat → Nat → Int32) (b : Nat → Nat → Int64) (fr n : Nat) (so : Int32) (h : fr + n ≤ 32) : Con mX9_bitsOf d [.ref 0, .int (nI fr), .int (nI n), .int so] (mW v a b) (fun r W' => W' = mW v a b ∧ r = some (.int (itN (bitsF (a 55) fr so) 0 n))) := by
  refine Con.of (by decide) (Nat.le_of_ble_eq_true rfl) ?_
  refine XG.blk tX9_bitsOf_ok 0 4 (pc' := 6) (pl' := [some (.ref 0), some (.int (nI fr)), some (.int (nI n)), some (.int so), some (.int (nI 0)), some (.int (nI 0))]) (st' := []) (W1 := (mW v a b)) (bs := []) rfl rfl rfl ?_
  refine px_for n (fun i => XG mX9_bitsOf _ 0 0 6 [some (.ref 0), some (.int (nI fr)), some (.int (nI n)), some (.int so), some (.int (itN (bitsF (a 55) fr so) 0 i)), some (.int (nI i))] [] (mW v a b)) ?_ ?_ 0 (by omega)
  · skip
    refine XG.blk tX9_bitsOf_ok 4 2 (pc' := 9) (pl' := [some (.ref 0), some (.int (nI fr)), some (.int (nI n)), some (.int so), some (.int (itN (bitsF (a 55) fr so) 0 n)), some (.int (nI n))]) (st' := [(.int (nI n)), (.int (nI n))]) (W1 := (mW v a b)) (bs := []) rfl rfl rfl ?_
    refine XG.br eX9_bitsOf_9 (P := (nI n) ≤ (nI n)) (r := []) rfl (tgt := 40) (by decide) (fun h9 => ?_) (fun h9 => ?_)
    · skip
      have g9 : n ≤ n := (nI_leI (a := n) (b := n) (by omega) (by omega)).mp h9
      refine XG.blk tX9_bitsOf_ok 23 1 (pc' := 42) (pl' := [some (.ref 0), some (.int (nI fr)), some (.int (nI n)), some (.int so), some (.int (itN (bitsF (a 55) fr so) 0 n)), some (.int (nI n))]) (st' := [(.int (itN (bitsF (a 55) fr so) 0 n))]) (W1 := (mW v a b)) (bs := []) rfl rfl rfl ?_
      refine XS.iret eX9_bitsOf_42 rfl rfl ?_
      exact ⟨rfl, rfl⟩
    · exfalso
      have g9 : ¬ n ≤ n := (fun z => h9 ((nI_leI (a := n) (b := n) (by omega) (by omega)).mpr z))
      omega
  · intro i hi ihi
    refine XG.blk tX9_bitsOf_ok 4 2 (pc' := 9) (pl' := [some (.ref 0), some (.int (nI fr)), some (.int (nI n)), some (.int so), some (.int (itN (bitsF (a 55) fr so) 0 i)), some (.int (nI i))]) (st' := [(.int (nI n)), (.int (nI i))]) (W1 := (mW v a b)) (bs := []) rfl rfl rfl ?_
    refine XG.br eX9_bitsOf_9 (P := (nI n) ≤ (nI i)) (r := []) rfl (tgt := 40) (by decide) (fun h9 => ?_) (fun h9 => ?_)
    · exfalso
      have g9 : n ≤ i := (nI_leI (a := n) (b := i) (by omega) (by omega)).mp h9
      omega
    · skip
      have g9 : ¬ n ≤ i := (fun z => h9 ((nI_leI (a := n) (b := i) (by omega) (by omega)).mpr z))
      have q1 : ((nI fr) + (nI i)) = (nI (fr + i)) := px_eadd rfl rfl
      have q2 : (nI (fr + i)).toNatClampNeg = (fr + i) := nI_clamp (by omega)
      refine XG.blk tX9_bitsOf_ok 7 7 (pc' := 22) (pl' := [some (.ref 0), some (.int (nI fr)), some (.int (nI n)), some (.int so), some (.int (itN (bitsF (a 55) fr so) 0 i)), some (.int (nI i))]) (st' := [(.int so), (.int ((a 55) ((nI fr) + (nI i)).toNatClampNeg))]) (W1 := (mW v a b)) (bs := [px_vb ((nI fr) + (nI i)) 32]) rfl rfl (by (try simp only [q1, q2]); exact (px_all (px_vbN (by omega) (by decide)) rfl)) ?_
      simp only [q1, q2]
      refine XG.br eX9_bitsOf_22 (P := ¬ ((a 55) (fr + i)) = so) (r := []) rfl (tgt := 34) (by decide) (fun h22 => ?_) (fun h22 => ?_)
      · skip
        have q3 : ((nI i) + (nI 1)) = (nI (i + 1)) := px_eadd rfl rfl
        refine XG.blk tX9_bitsOf_ok 21 1 (pc' := 37) (pl' := [some (.ref 0), some (.int (nI fr)), some (.int (nI n)), some (.int so), some (.int (itN (bitsF (a 55) fr so) 0 i)), some (.int ((nI i) + (nI 1)))]) (st' := []) (W1 := (mW v a b)) (bs := []) rfl rfl rfl ?_
        simp only [q3]
        refine XG.goto eX9_bitsOf_37 (tgt := 6) (by decide) ?_
        rw [show (itN (bitsF (a 55) fr so) 0 (i + 1)) = (itN (bitsF (a 55) fr so) 0 i) from if_neg h22] at ihi; exact ihi
      · skip
        have h22 := Decidable.not_not.mp h22
        have q4 : ((nI i) + (nI 1)) = (nI (i + 1)) := px_eadd rfl rfl
        refine XG.blk tX9_bitsOf_ok 15 7 (pc' := 37) (pl' := [some (.ref 0), some (.int (nI fr)), some (.int (nI n)), some (.int so), some (.int ((itN (bitsF (a 55) fr so) 0 i) ||| ((nI 1) <<< ((nI i) &&& 31)))), some (.int ((nI i) + (nI 1)))]) (st' := []) (W1 := (mW v a b)) (bs := []) rfl rfl rfl ?_
        simp only [q4]
        refine XG.goto eX9_bitsOf_37 (tgt := 6) (by decide) ?_
        rw [show (itN (bitsF (a 55) fr so) 0 (i + 1)) = (itN (bitsF (a 55) fr so) 0 i) ||| (nI 1 <<< (nI i &&& 31)) from if_pos h22] at ihi; exact ihi
set_option maxHeartbeats 400000 in
theorem con_keepsRow (d : Nat) (v : Nat → Int32) (a : Nat → Nat → Int32) (b : Nat → Nat → Int64) : Con mX9_keepsRow d [.ref 0] (mW v a b) (fun r W' => W' = mW v (va_up a 54 (cpF (a 55) (a 54) 32)) b ∧ r = none) := by
  refine Con.of (by decide) (Nat.le_of_ble_eq_true rfl) ?_
  refine XG.blk tX9_keepsRow_ok 0 2 (pc' := 2) (pl' := [some (.ref 0), some (.int (nI 0))]) (st' := []) (W1 := (mW v a b)) (bs := []) rfl rfl rfl ?_
  rw [show mW v a b = mW v (va_up a 54 (cpF (a 55) (a 54) 0)) b by rw [cpF_0, va_up_id]]
  refine px_for 32 (fun i => XG mX9_keepsRow _ 0 0 2 [some (.ref 0), some (.int (nI i))] [] (mW v (va_up a 54 (cpF (a 55) (a 54) i)) b)) ?_ ?_ 0 (by omega)
  · skip
    refine XG.blk tX9_keepsRow_ok 2 2 (pc' := 5) (pl' := [some (.ref 0), some (.int (nI 32))]) (st' := [(.int (nI 32)), (.int (nI 32))]) (W1 := (mW v (va_up a 54 (cpF (a 55) (a 54) 32)) b)) (bs := []) rfl rfl rfl ?_
    refine XG.br eX9_keepsRow_5 (P := (nI 32) ≤ (nI 32)) (r := []) rfl (tgt := 26) (by decide) (fun h5 => ?_) (fun h5 => ?_)
    · skip
      have g5 : 32 ≤ 32 := (nI_leI (a := 32) (b := 32) (by omega) (by omega)).mp h5
      refine XS.vret eX9_keepsRow_26 rfl ?_
      exact ⟨rfl, rfl⟩
    · exfalso
      have g5 : ¬ 32 ≤ 32 := (fun z => h5 ((nI_leI (a := 32) (b := 32) (by omega) (by omega)).mpr z))
      omega
  · intro i hi ihi
    refine XG.blk tX9_keepsRow_ok 2 2 (pc' := 5) (pl' := [some (.ref 0), some (.int (nI i))]) (st' := [(.int (nI 32)), (.int (nI i))]) (W1 := (mW v (va_up a 54 (cpF (a 55) (a 54) i)) b)) (bs := []) rfl rfl rfl ?_
    refine XG.br eX9_keepsRow_5 (P := (nI 32) ≤ (nI i)) (r := []) rfl (tgt := 26) (by decide) (fun h5 => ?_) (fun h5 => ?_)
    · exfalso
      have g5 : 32 ≤ i := (nI_leI (a := 32) (b := i) (by omega) (by omega)).mp h5
      omega
    · skip
      have g5 : ¬ 32 ≤ i := (fun z => h5 ((nI_leI (a := 32) (b := i) (by omega) (by omega)).mpr z))
      have q1 : (nI i).toNatClampNeg = i := nI_clamp (by omega)
      have q2 : ((nI i) + (nI 1)) = (nI (i + 1)) := px_eadd rfl rfl
      refine XG.blk tX9_keepsRow_ok 5 9 (pc' := 23) (pl' := [some (.ref 0), some (.int ((nI i) + (nI 1)))]) (st' := []) (W1 := (mW v (va_up a 54 (upd (cpF (a 55) (a 54) i) (nI i).toNatClampNeg ((a 55) (nI i).toNatClampNeg))) b)) (bs := [px_vb (nI i) 32, px_vb (nI i) 32]) rfl rfl (by (try simp only [q1, q2]); exact (px_all (px_vbN (by omega) (by decide)) (px_all (px_vbN (by omega) (by decide)) rfl))) ?_
      simp only [q1, q2]
      refine XG.goto eX9_keepsRow_23 (tgt := 2) (by decide) ?_
      rw [cpF_s]; exact ihi
set_option maxHeartbeats 400000 in
theorem con_copies (d : Nat) (v : Nat → Int32) (a : Nat → Nat → Int32) (b : Nat → Nat → Int64) (lv sp sl cr : Nat) (I : MI v a lv sp sl cr) : Con mX9_copies d [.ref 0] (mW v a b) (fun r W' => W' = mW (va_up (va_up v 56 (a 37 lv)) 57 0) (va_up a 55 (cpF (a 54) (a 55) 32)) b ∧ r = none) := by
  obtain ⟨hlv, hlv2, hsp, hsp1, hsp2, hsl, hsl2, hcr, hcr2⟩ := id I
  refine Con.of (by decide) (Nat.le_of_ble_eq_true rfl) ?_
  refine XG.blk tX9_copies_ok 0 2 (pc' := 2) (pl' := [some (.ref 0), some (.int (nI 0))]) (st' := []) (W1 := (mW v a b)) (bs := []) rfl rfl rfl ?_
  rw [show mW v a b = mW v (va_up a 55 (cpF (a 54) (a 55) 0)) b by rw [cpF_0, va_up_id]]
  refine px_for 32 (fun i => XG mX9_copies _ 0 0 2 [some (.ref 0), some (.int (nI i))] [] (mW v (va_up a 55 (cpF (a 54) (a 55) i)) b)) ?_ ?_ 0 (by omega)
  · skip
    refine XG.blk tX9_copies_ok 2 2 (pc' := 5) (pl' := [some (.ref 0), some (.int (nI 32))]) (st' := [(.int (nI 32)), (.int (nI 32))]) (W1 := (mW v (va_up a 55 (cpF (a 54) (a 55) 32)) b)) (bs := []) rfl rfl rfl ?_
    refine XG.br eX9_copies_5 (P := (nI 32) ≤ (nI 32)) (r := []) rfl (tgt := 26) (by decide) (fun h5 => ?_) (fun h5 => ?_)
    · skip
      have g5 : 32 ≤ 32 := (nI_leI (a := 32) (b := 32) (by omega) (by omega)).mp h5
      have q1 : (v 18) = (nI lv) := hlv
      have q2 : (nI lv).toNatClampNeg = lv := nI_clamp (by omega)
      refine XG.blk tX9_copies_ok 15 10 (pc' := 44) (pl' := [some (.ref 0), some (.int (nI 32))]) (st' := []) (W1 := (mW (va_up (va_up v 56 ((a 37) (v 18).toNatClampNeg)) 57 (nI 0)) (va_up a 55 (cpF (a 54) (a 55) 32)) b)) (bs := [px_vb (v 18) 2, ((nI 0) == 0 || (nI 0) == 1)]) rfl rfl (by (try simp only [q1, q2]); exact (px_all (px_vbN (by omega) (by decide)) (px_all (rfl) rfl))) ?_
      simp only [q1, q2]
      refine XS.vret eX9_copies_44 rfl ?_
      exact ⟨rfl, rfl⟩
    · exfalso
      have g5 : ¬ 32 ≤ 32 := (fun z => h5 ((nI_leI (a := 32) (b := 32) (by omega) (by omega)).mpr z))
      omega
  · intro i hi ihi
    refine XG.blk tX9_copies_ok 2 2 (pc' := 5) (pl' := [some (.ref 0), some (.int (nI i))]) (st' := [(.int (nI 32)), (.int (nI i))]) (W1 := (mW v (va_up a 55 (cpF (a 54) (a 55) i)) b)) (bs := []) rfl rfl rfl ?_
    refine XG.br eX9_copies_5 (P := (nI 32) ≤ (nI i)) (r := []) rfl (tgt := 26) (by decide) (fun h5 => ?_) (fun h5 => ?_)
    · exfalso
      have g5 : 32 ≤ i := (nI_leI (a := 32) (b := i) (by omega) (by omega)).mp h5
      omega
    · skip
      have g5 : ¬ 32 ≤ i := (fun z => h5 ((nI_leI (a := 32) (b := i) (by omega) (by omega)).mpr z))
      have q3 : (nI i).toNatClampNeg = i := nI_clamp (by omega)
      have q4 : ((nI i) + (nI 1)) = (nI (i + 1)) := px_eadd rfl rfl
      refine XG.blk tX9_copies_ok 5 9 (pc' := 23) (pl' := [some (.ref 0), some (.int ((nI i) + (nI 1)))]) (st' := []) (W1 := (mW v (va_up a 55 (upd (cpF (a 54) (a 55) i) (nI i).toNatClampNeg ((a 54) (nI i).toNatClampNeg))) b)) (bs := [px_vb (nI i) 32, px_vb (nI i) 32]) rfl rfl (by (try simp only [q3, q4]); exact (px_all (px_vbN (by omega) (by decide)) (px_all (px_vbN (by omega) (by decide)) rfl))) ?_
      simp only [q3, q4]
      refine XG.goto eX9_copies_23 (tgt := 2) (by decide) ?_
      rw [cpF_s]; exact ihi
def lotF (lots w : Int32) : Int32 := ((mixF (mixF lots (nI 93)) w).toUInt32 >>> ((nI 1).toUInt32 &&& Int32.toUInt32 31)).toInt32 - ((mixF (mixF lots (nI 93)) w).toUInt32 >>> ((nI 1).toUInt32 &&& Int32.toUInt32 31)).toInt32 / nI 100 * nI 100
set_option maxHeartbeats 400000 in
theorem con_lotOf (d : Nat) (v : Nat → Int32) (a : Nat → Nat → Int32) (b : Nat → Nat → Int64) (w : Int32) (hd : 1 ≤ d) : Con mX9_lotOf d [.ref 0, .int w] (mW v a b) (fun r W' => W' = mW v a b ∧ r = some (.int (lotF (v 56) w))) := by
  refine Con.of (by decide) (Nat.le_of_ble_eq_true rfl) ?_
  refine XG.blk tX9_lotOf_ok 0 3 (pc' := 6) (pl' := [some (.ref 0), some (.int w)]) (st' := [(.int (nI 93)), (.int (v 56))]) (W1 := (mW v a b)) (bs := []) rfl rfl rfl ?_
  refine XG.callSp (r := some (.int (mixF (v 56) (nI 93)))) eX9_lotOf_6 kl_X9_345 (con_mixed (d - 1) (v 56) (nI 93)) (px_fitS (by omega)) rfl rfl rfl rfl (Nat.le_of_ble_eq_true rfl) ?_
  refine XG.blk tX9_lotOf_ok 4 1 (pc' := 10) (pl' := [some (.ref 0), some (.int w)]) (st' := [(.int w), (.int (mixF (v 56) (nI 93)))]) (W1 := (mW v a b)) (bs := []) rfl rfl rfl ?_
  refine XG.callSp (r := some (.int (mixF (mixF (v 56) (nI 93)) w))) eX9_lotOf_10 kl_X9_345 (con_mixed (d - 1) (mixF (v 56) (nI 93)) w) (px_fitS (by omega)) rfl rfl rfl rfl (Nat.le_of_ble_eq_true rfl) ?_
  refine XG.blk tX9_lotOf_ok 6 4 (pc' := 18) (pl' := [some (.ref 0), some (.int w)]) (st' := [(.int ((((mixF (mixF (v 56) (nI 93)) w)).toUInt32 >>> (((nI 1)).toUInt32 &&& Int32.toUInt32 31)).toInt32 - (((mixF (mixF (v 56) (nI 93)) w)).toUInt32 >>> (((nI 1)).toUInt32 &&& Int32.toUInt32 31)).toInt32 / (nI 100) * (nI 100)))]) (W1 := (mW v a b)) (bs := [!((nI 100) == 0)]) rfl rfl (px_all (rfl) rfl) ?_
  refine XS.iret eX9_lotOf_18 rfl rfl ?_
  exact ⟨rfl, rfl⟩
theorem con_fives (d n : Nat) (hn : n ≤ 12) : Con mX9_fives d [.int (nI n)] [] (fun r _ => r = some (.int (nI (5 ^ n)))) := by
  refine Con.of (by decide) (Nat.le_of_ble_eq_true rfl) ?_
  refine XG.blk tX9_fives_ok 0 4 (pc' := 4) (pl' := [some (.int (nI n)), some (.int (nI 1)), some (.int (nI 0))]) (st' := []) (W1 := []) (bs := []) rfl rfl rfl ?_
  refine px_for n (fun i => XG mX9_fives _ 0 0 4 [some (.int (nI n)), some (.int (nI (5 ^ i))), some (.int (nI i))] [] []) ?_ ?_ 0 (by omega)
  · skip
    refine XG.blk tX9_fives_ok 4 2 (pc' := 6) (pl' := [some (.int (nI n)), some (.int (nI (5 ^ n))), some (.int (nI n))]) (st' := [(.int (nI n)), (.int (nI n))]) (W1 := []) (bs := []) rfl rfl rfl ?_
    refine XG.br eX9_fives_6 (P := (nI n) ≤ (nI n)) (r := []) rfl (tgt := 19) (by decide) (fun h6 => ?_) (fun h6 => ?_)
    · skip
      have g6 : n ≤ n := (nI_leI (a := n) (b := n) (by omega) (by omega)).mp h6
      refine XG.blk tX9_fives_ok 13 1 (pc' := 20) (pl' := [some (.int (nI n)), some (.int (nI (5 ^ n))), some (.int (nI n))]) (st' := [(.int (nI (5 ^ n)))]) (W1 := []) (bs := []) rfl rfl rfl ?_
      refine XS.iret eX9_fives_20 rfl rfl ?_
      rfl
    · exfalso
      have g6 : ¬ n ≤ n := (fun z => h6 ((nI_leI (a := n) (b := n) (by omega) (by omega)).mpr z))
      omega
  · intro i hi ihi
    refine XG.blk tX9_fives_ok 4 2 (pc' := 6) (pl' := [some (.int (nI n)), some (.int (nI (5 ^ i))), some (.int (nI i))]) (st' := [(.int (nI n)), (.int (nI i))]) (W1 := []) (bs := []) rfl rfl rfl ?_
    refine XG.br eX9_fives_6 (P := (nI n) ≤ (nI i)) (r := []) rfl (tgt := 19) (by decide) (fun h6 => ?_) (fun h6 => ?_)
    · exfalso
      have g6 : n ≤ i := (nI_leI (a := n) (b := i) (by omega) (by omega)).mp h6
      omega
    · skip
      have g6 : ¬ n ≤ i := (fun z => h6 ((nI_leI (a := n) (b := i) (by omega) (by omega)).mpr z))
      have q1 : ((nI (5 ^ i)) * (nI 5)) = (nI ((5 ^ i) * 5)) := px_emul rfl rfl
      have q2 : ((nI i) + (nI 1)) = (nI (i + 1)) := px_eadd rfl rfl
      refine XG.blk tX9_fives_ok 7 5 (pc' := 16) (pl' := [some (.int (nI n)), some (.int ((nI (5 ^ i)) * (nI 5))), some (.int ((nI i) + (nI 1)))]) (st' := []) (W1 := []) (bs := []) rfl rfl rfl ?_
      simp only [q1, q2]
      refine XG.goto eX9_fives_16 (tgt := 4) (by decide) ?_
      rw [show 5 ^ i * 5 = 5 ^ (i + 1) from (Nat.pow_succ 5 i).symm]; exact ihi
