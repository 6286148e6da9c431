/-! the reference: what a night shows -/
theorem ite_one {c : Prop} [Decidable c] : narrow .boolean (.int (if c then (1 : Int32) else 0)) = .int (if c then (1 : Int32) else 0) := by split <;> rfl
theorem one_ne {c : Prop} [Decidable c] : (if c then (1 : Int32) else 0) = 0 ↔ ¬ c := by
  split
  · exact ⟨fun h => absurd h (by decide), fun h => absurd (by assumption) h⟩
  · exact ⟨fun _ => by assumption, fun _ => rfl⟩
set_option maxHeartbeats 400000 in
theorem con_isSpan (d : Nat) (v : Nat → Int32) (a : Nat → Nat → Int32) (b : Nat → Nat → Int64) (p : Int32) (lv sp sl cr : Nat) (I : MI v a lv sp sl cr) (hd : 1 ≤ d) : Con mX9_isSpan d [.ref 0, .int p] (mW v a b) (fun r W' => W' = mW v a b ∧ r = some (.int (if px_vb p sp = true then 1 else 0))) := by
  obtain ⟨hlv, hlv2, hsp, hsp1, hsp2, hsl, hsl2, hcr, hcr2⟩ := id I
  refine Con.of (by decide) (Nat.le_of_ble_eq_true rfl) ?_
  have q1 : (v 18) = (nI lv) := hlv
  have q2 : (nI lv).toNatClampNeg = lv := nI_clamp (by omega)
  have q3 : ((a 23) lv) = (nI sp) := hsp
  have q4 : ((nI sp) - (nI 1)) = (nI (sp - 1)) := px_esub rfl rfl (by omega)
  refine XG.blk tX9_isSpan_ok 0 9 (pc' := 13) (pl' := [some (.ref 0), some (.int p)]) (st' := [(.int (((a 23) (v 18).toNatClampNeg) - (nI 1))), (.int (nI 0)), (.int p)]) (W1 := (mW v a b)) (bs := [px_vb (v 18) 2]) rfl rfl (by (try simp only [q1, q2, q3, q4]); exact (px_all (px_vbN (by omega) (by decide)) rfl)) ?_
  simp only [q1, q2, q3, q4]
  refine XG.callSp (r := some (.int (if (nI 0) ≤ p ∧ p ≤ (nI (sp - 1)) then 1 else 0))) eX9_isSpan_13 kl_X9_331 (con_in (d - 1) p (nI 0) (nI (sp - 1))) (px_fitS (by omega)) rfl rfl rfl rfl (Nat.le_of_ble_eq_true rfl) ?_
  refine XS.iret eX9_isSpan_16 rfl ite_one ?_
  refine ⟨rfl, ?_⟩
  congr 2
  simp only [px_inR hsp1 (show sp < 2 ^ 31 by omega)]
set_option maxHeartbeats 400000 in
theorem con_isSleeper (d : Nat) (v : Nat → Int32) (a : Nat → Nat → Int32) (b : Nat → Nat → Int64) (p : Int32) (lv sp sl cr : Nat) (I : MI v a lv sp sl cr) (hd : 1 ≤ d) : Con mX9_isSleeper d [.ref 0, .int p] (mW v a b) (fun r W' => W' = mW v a b ∧ r = some (.int (if px_vb p sl = true then 1 else 0))) := by
  obtain ⟨hlv, hlv2, hsp, hsp1, hsp2, hsl, hsl2, hcr, hcr2⟩ := id I
  refine Con.of (by decide) (Nat.le_of_ble_eq_true rfl) ?_
  rcases Nat.eq_zero_or_pos sl with h0 | h0
  · subst h0
    have q1 : (v 18) = (nI lv) := hlv
    have q2 : (nI lv).toNatClampNeg = lv := nI_clamp (by omega)
    have q3 : ((a 24) lv) = (nI 0) := hsl
    refine XG.blk tX9_isSleeper_ok 0 9 (pc' := 13) (pl' := [some (.ref 0), some (.int p)]) (st' := [(.int (((a 24) (v 18).toNatClampNeg) - (nI 1))), (.int (nI 0)), (.int p)]) (W1 := (mW v a b)) (bs := [px_vb (v 18) 2]) rfl rfl (by (try simp only [q1, q2, q3]); exact (px_all (px_vbN (by omega) (by decide)) rfl)) ?_
    simp only [q1, q2, q3]
    refine XG.callSp (r := some (.int (if (nI 0) ≤ p ∧ p ≤ ((nI 0) - (nI 1)) then 1 else 0))) eX9_isSleeper_13 kl_X9_331 (con_in (d - 1) p (nI 0) ((nI 0) - (nI 1))) (px_fitS (by omega)) rfl rfl rfl rfl (Nat.le_of_ble_eq_true rfl) ?_
    refine XS.iret eX9_isSleeper_16 rfl ite_one ?_
    refine ⟨rfl, ?_⟩
    congr 2
    have e9 : ¬ (nI 0 ≤ p ∧ p ≤ nI 0 - nI 1) := by
      rw [Int32.le_iff_toInt_le, Int32.le_iff_toInt_le, show (nI 0).toInt = 0 from rfl, show (nI 0 - nI 1).toInt = -1 from rfl]; omega
    have e8 : ¬ px_vb p 0 = true := by rw [px_vb_iff]; omega
    rw [if_neg e9, if_neg e8]
  · skip
    have q1 : (v 18) = (nI lv) := hlv
    have q2 : (nI lv).toNatClampNeg = lv := nI_clamp (by omega)
    have q3 : ((a 24) lv) = (nI sl) := hsl
    have q4 : ((nI sl) - (nI 1)) = (nI (sl - 1)) := px_esub rfl rfl (by omega)
    refine XG.blk tX9_isSleeper_ok 0 9 (pc' := 13) (pl' := [some (.ref 0), some (.int p)]) (st' := [(.int (((a 24) (v 18).toNatClampNeg) - (nI 1))), (.int (nI 0)), (.int p)]) (W1 := (mW v a b)) (bs := [px_vb (v 18) 2]) rfl rfl (by (try simp only [q1, q2, q3, q4]); exact (px_all (px_vbN (by omega) (by decide)) rfl)) ?_
    simp only [q1, q2, q3, q4]
    refine XG.callSp (r := some (.int (if (nI 0) ≤ p ∧ p ≤ (nI (sl - 1)) then 1 else 0))) eX9_isSleeper_13 kl_X9_331 (con_in (d - 1) p (nI 0) (nI (sl - 1))) (px_fitS (by omega)) rfl rfl rfl rfl (Nat.le_of_ble_eq_true rfl) ?_
    refine XS.iret eX9_isSleeper_16 rfl ite_one ?_
    refine ⟨rfl, ?_⟩
    congr 2
    simp only [px_inR h0 (show sl < 2 ^ 31 by omega)]
set_option maxHeartbeats 400000 in
theorem con_isCrosser (d : Nat) (v : Nat → Int32) (a : Nat → Nat → Int32) (b : Nat → Nat → Int64) (p : Int32) (lv sp sl cr : Nat) (I : MI v a lv sp sl cr) (hd : 1 ≤ d) : Con mX9_isCrosser d [.ref 0, .int p] (mW v a b) (fun r W' => W' = mW v a b ∧ r = some (.int (if px_vb p cr = true then 1 else 0))) := by
  obtain ⟨hlv, hlv2, hsp, hsp1, hsp2, hsl, hsl2, hcr, hcr2⟩ := id I
  refine Con.of (by decide) (Nat.le_of_ble_eq_true rfl) ?_
  rcases Nat.eq_zero_or_pos cr with h0 | h0
  · subst h0
    have q1 : (v 18) = (nI lv) := hlv
    have q2 : (nI lv).toNatClampNeg = lv := nI_clamp (by omega)
    have q3 : ((a 31) lv) = (nI 0) := hcr
    refine XG.blk tX9_isCrosser_ok 0 9 (pc' := 13) (pl' := [some (.ref 0), some (.int p)]) (st' := [(.int (((a 31) (v 18).toNatClampNeg) - (nI 1))), (.int (nI 0)), (.int p)]) (W1 := (mW v a b)) (bs := [px_vb (v 18) 2]) rfl rfl (by (try simp only [q1, q2, q3]); exact (px_all (px_vbN (by omega) (by decide)) rfl)) ?_
    simp only [q1, q2, q3]
    refine XG.callSp (r := some (.int (if (nI 0) ≤ p ∧ p ≤ ((nI 0) - (nI 1)) then 1 else 0))) eX9_isCrosser_13 kl_X9_331 (con_in (d - 1) p (nI 0) ((nI 0) - (nI 1))) (px_fitS (by omega)) rfl rfl rfl rfl (Nat.le_of_ble_eq_true rfl) ?_
    refine XS.iret eX9_isCrosser_16 rfl ite_one ?_
    refine ⟨rfl, ?_⟩
    congr 2
    have e9 : ¬ (nI 0 ≤ p ∧ p ≤ nI 0 - nI 1) := by
      rw [Int32.le_iff_toInt_le, Int32.le_iff_toInt_le, show (nI 0).toInt = 0 from rfl, show (nI 0 - nI 1).toInt = -1 from rfl]; omega
    have e8 : ¬ px_vb p 0 = true := by rw [px_vb_iff]; omega
    rw [if_neg e9, if_neg e8]
  · skip
    have q1 : (v 18) = (nI lv) := hlv
    have q2 : (nI lv).toNatClampNeg = lv := nI_clamp (by omega)
    have q3 : ((a 31) lv) = (nI cr) := hcr
    have q4 : ((nI cr) - (nI 1)) = (nI (cr - 1)) := px_esub rfl rfl (by omega)
    refine XG.blk tX9_isCrosser_ok 0 9 (pc' := 13) (pl' := [some (.ref 0), some (.int p)]) (st' := [(.int (((a 31) (v 18).toNatClampNeg) - (nI 1))), (.int (nI 0)), (.int p)]) (W1 := (mW v a b)) (bs := [px_vb (v 18) 2]) rfl rfl (by (try simp only [q1, q2, q3, q4]); exact (px_all (px_vbN (by omega) (by decide)) rfl)) ?_
    simp only [q1, q2, q3, q4]
    refine XG.callSp (r := some (.int (if (nI 0) ≤ p ∧ p ≤ (nI (cr - 1)) then 1 else 0))) eX9_isCrosser_13 kl_X9_331 (con_in (d - 1) p (nI 0) (nI (cr - 1))) (px_fitS (by omega)) rfl rfl rfl rfl (Nat.le_of_ble_eq_true rfl) ?_
    refine XS.iret eX9_isCrosser_16 rfl ite_one ?_
    refine ⟨rfl, ?_⟩
    congr 2
    simp only [px_inR h0 (show cr < 2 ^ 31 by omega)]
/-- is b asleep: not awake, and dawn to come -/
abbrev slp (row : Nat → Int32) (dawn : Int32) (b : Nat) : Prop := row (6 + b) = 0 ∧ row 28 < dawn
set_option maxHeartbeats 400000 in
theorem con_isAsleep (d : Nat) (v : Nat → Int32) (a : Nat → Nat → Int32) (b : Nat → Nat → Int64) (k : Nat) (hk : k < 6) (lv sp sl cr : Nat) (I : MI v a lv sp sl cr) : Con mX9_isAsleep d [.ref 0, .int (nI k)] (mW v a b) (fun r W' => W' = mW v a b ∧ r = some (.int (if slp (a 55) (a 35 lv) k then 1 else 0))) := by
  obtain ⟨hlv, hlv2, hsp, hsp1, hsp2, hsl, hsl2, hcr, hcr2⟩ := id I
  refine Con.of (by decide) (Nat.le_of_ble_eq_true rfl) ?_
  have q1 : ((nI 6) + (nI k)) = (nI (6 + k)) := px_eadd rfl rfl
  have q2 : (nI (6 + k)).toNatClampNeg = (6 + k) := nI_clamp (by omega)
  refine XG.blk tX9_isAsleep_ok 0 6 (pc' := 9) (pl' := [some (.ref 0), some (.int (nI k))]) (st' := [(.int ((a 55) ((nI 6) + (nI k)).toNatClampNeg))]) (W1 := (mW v a b)) (bs := [px_vb ((nI 6) + (nI k)) 32]) rfl rfl (by (try simp only [q1, q2]); exact (px_all (px_vbN (by omega) (by decide)) rfl)) ?_
  simp only [q1, q2]
  refine XG.br eX9_isAsleep_9 (P := ¬ ((a 55) (6 + k)) = 0) (r := []) rfl (tgt := 35) (by decide) (fun h9 => ?_) (fun h9 => ?_)
  · skip
    refine XG.blk tX9_isAsleep_ok 19 1 (pc' := 36) (pl' := [some (.ref 0), some (.int (nI k))]) (st' := [(.int (nI 0))]) (W1 := (mW v a b)) (bs := []) rfl rfl rfl ?_
    refine XS.iret eX9_isAsleep_36 rfl (by decide) ?_
    rw [if_neg (fun hc => h9 hc.1)]; exact ⟨rfl, rfl⟩
  · skip
    have h9 := Decidable.not_not.mp h9
    have q3 : (nI 28).toNatClampNeg = 28 := nI_clamp (by omega)
    have q4 : (v 18) = (nI lv) := hlv
    have q5 : (nI lv).toNatClampNeg = lv := nI_clamp (by omega)
    refine XG.blk tX9_isAsleep_ok 7 9 (pc' := 28) (pl' := [some (.ref 0), some (.int (nI k))]) (st' := [(.int ((a 35) (v 18).toNatClampNeg)), (.int ((a 55) (nI 28).toNatClampNeg))]) (W1 := (mW v a b)) (bs := [px_vb (nI 28) 32, px_vb (v 18) 2]) rfl rfl (by (try simp only [q3, q4, q5]); exact (px_all (px_vbN (by omega) (by decide)) (px_all (px_vbN (by omega) (by decide)) rfl))) ?_
    simp only [q3, q4, q5]
    refine XG.br eX9_isAsleep_28 (P := ((a 35) lv) ≤ ((a 55) 28)) (r := []) rfl (tgt := 35) (by decide) (fun h28 => ?_) (fun h28 => ?_)
    · skip
      refine XG.blk tX9_isAsleep_ok 19 1 (pc' := 36) (pl' := [some (.ref 0), some (.int (nI k))]) (st' := [(.int (nI 0))]) (W1 := (mW v a b)) (bs := []) rfl rfl rfl ?_
      refine XS.iret eX9_isAsleep_36 rfl (by decide) ?_
      rw [if_neg (fun hc => absurd hc.2 (Int32.not_lt.mpr h28))]; exact ⟨rfl, rfl⟩
    · skip
      refine XG.blk tX9_isAsleep_ok 17 1 (pc' := 32) (pl' := [some (.ref 0), some (.int (nI k))]) (st' := [(.int (nI 1))]) (W1 := (mW v a b)) (bs := []) rfl rfl rfl ?_
      refine XG.goto eX9_isAsleep_32 (tgt := 36) (by decide) ?_
      refine XS.iret eX9_isAsleep_36 rfl (by decide) ?_
      rw [if_pos ⟨h9, Int32.not_le.mp h28⟩]; exact ⟨rfl, rfl⟩
def loadF (row load : Nat → Int32) (lv : Nat) (p : Int32) : Nat → Int32 → Int32 := fun c s => if row (18 + c) = p then s + load (5 * lv + c) else s
set_option maxHeartbeats 400000 in
theorem con_loadOn (d : Nat) (v : Nat → Int32) (a : Nat → Nat → Int32) (b : Nat → Nat → Int64) (p : Int32) (lv sp sl cr : Nat) (I : MI v a lv sp sl cr) : Con mX9_loadOn d [.ref 0, .int p] (mW v a b) (fun r W' => W' = mW v a b ∧ r = some (.int (itN (loadF (a 55) (a 32) lv p) 0 cr))) := by
  obtain ⟨hlv, hlv2, hsp, hsp1, hsp2, hsl, hsl2, hcr, hcr2⟩ := id I
  refine Con.of (by decide) (Nat.le_of_ble_eq_true rfl) ?_
  refine XG.blk tX9_loadOn_ok 0 4 (pc' := 4) (pl' := [some (.ref 0), some (.int p), some (.int (nI 0)), some (.int (nI 0))]) (st' := []) (W1 := (mW v a b)) (bs := []) rfl rfl rfl ?_
  refine px_for cr (fun i => XG mX9_loadOn _ 0 0 4 [some (.ref 0), some (.int p), some (.int (itN (loadF (a 55) (a 32) lv p) 0 i)), some (.int (nI i))] [] (mW v a b)) ?_ ?_ 0 (Nat.zero_le _)
  · skip
    have q1 : (v 18) = (nI lv) := hlv
    have q2 : (nI lv).toNatClampNeg = lv := nI_clamp (by omega)
    have q3 : ((a 31) lv) = (nI cr) := hcr
    refine XG.blk tX9_loadOn_ok 4 6 (pc' := 14) (pl' := [some (.ref 0), some (.int p), some (.int (itN (loadF (a 55) (a 32) lv p) 0 cr)), some (.int (nI cr))]) (st' := [(.int ((a 31) (v 18).toNatClampNeg)), (.int (nI cr))]) (W1 := (mW v a b)) (bs := [px_vb (v 18) 2]) rfl rfl (by (try simp only [q1, q2, q3]); exact (px_all (px_vbN (by omega) (by decide)) rfl)) ?_
    simp only [q1, q2, q3]
    refine XG.br eX9_loadOn_14 (P := (nI cr) ≤ (nI cr)) (r := []) rfl (tgt := 52) (by decide) (fun h14 => ?_) (fun h14 => ?_)
    · skip
      have g14 : cr ≤ cr := (nI_leI (a := cr) (b := cr) (by omega) (by omega)).mp h14
      refine XG.blk tX9_loadOn_ok 33 1 (pc' := 53) (pl' := [some (.ref 0), some (.int p), some (.int (itN (loadF (a 55) (a 32) lv p) 0 cr)), some (.int (nI cr))]) (st' := [(.int (itN (loadF (a 55) (a 32) lv p) 0 cr))]) (W1 := (mW v a b)) (bs := []) rfl rfl rfl ?_
      refine XS.iret eX9_loadOn_53 rfl rfl ?_
      exact ⟨rfl, rfl⟩
    · exfalso
      have g14 : ¬ cr ≤ cr := (fun z => h14 ((nI_leI (a := cr) (b := cr) (by omega) (by omega)).mpr z))
      omega
  · intro i hi ih
    have q1 : (v 18) = (nI lv) := hlv
    have q2 : (nI lv).toNatClampNeg = lv := nI_clamp (by omega)
    have q3 : ((a 31) lv) = (nI cr) := hcr
    refine XG.blk tX9_loadOn_ok 4 6 (pc' := 14) (pl' := [some (.ref 0), some (.int p), some (.int (itN (loadF (a 55) (a 32) lv p) 0 i)), some (.int (nI i))]) (st' := [(.int ((a 31) (v 18).toNatClampNeg)), (.int (nI i))]) (W1 := (mW v a b)) (bs := [px_vb (v 18) 2]) rfl rfl (by (try simp only [q1, q2, q3]); exact (px_all (px_vbN (by omega) (by decide)) rfl)) ?_
    simp only [q1, q2, q3]
    refine XG.br eX9_loadOn_14 (P := (nI cr) ≤ (nI i)) (r := []) rfl (tgt := 52) (by decide) (fun h14 => ?_) (fun h14 => ?_)
    · exfalso
      have g14 : cr ≤ i := (nI_leI (a := cr) (b := i) (by omega) (by omega)).mp h14
      omega
    · skip
      have g14 : ¬ cr ≤ i := (fun z => h14 ((nI_leI (a := cr) (b := i) (by omega) (by omega)).mpr z))
      have q4 : ((nI 18) + (nI i)) = (nI (18 + i)) := px_eadd rfl rfl
      have q5 : (nI (18 + i)).toNatClampNeg = (18 + i) := nI_clamp (by omega)
      refine XG.blk tX9_loadOn_ok 11 7 (pc' := 27) (pl' := [some (.ref 0), some (.int p), some (.int (itN (loadF (a 55) (a 32) lv p) 0 i)), some (.int (nI i))]) (st' := [(.int p), (.int ((a 55) ((nI 18) + (nI i)).toNatClampNeg))]) (W1 := (mW v a b)) (bs := [px_vb ((nI 18) + (nI i)) 32]) rfl rfl (by (try simp only [q4, q5]); exact (px_all (px_vbN (by omega) (by decide)) rfl)) ?_
      simp only [q4, q5]
      refine XG.br eX9_loadOn_27 (P := ¬ ((a 55) (18 + i)) = p) (r := []) rfl (tgt := 46) (by decide) (fun h27 => ?_) (fun h27 => ?_)
      · skip
        have q6 : ((nI i) + (nI 1)) = (nI (i + 1)) := px_eadd rfl rfl
        refine XG.blk tX9_loadOn_ok 31 1 (pc' := 49) (pl' := [some (.ref 0), some (.int p), some (.int (itN (loadF (a 55) (a 32) lv p) 0 i)), some (.int ((nI i) + (nI 1)))]) (st' := []) (W1 := (mW v a b)) (bs := []) rfl rfl rfl ?_
        simp only [q6]
        refine XG.goto eX9_loadOn_49 (tgt := 4) (by decide) ?_
        rw [show itN (loadF (a 55) (a 32) lv p) 0 (i + 1) = itN (loadF (a 55) (a 32) lv p) 0 i from if_neg h27] at ih; exact ih
      · skip
        have h27 := Decidable.not_not.mp h27
        have q7 : (v 18) = (nI lv) := hlv
        have q8 : ((nI 5) * (nI lv)) = (nI (5 * lv)) := px_emul rfl rfl
        have q9 : ((nI (5 * lv)) + (nI i)) = (nI ((5 * lv) + i)) := px_eadd rfl rfl
        have q10 : (nI ((5 * lv) + i)).toNatClampNeg = ((5 * lv) + i) := nI_clamp (by omega)
        have q11 : ((nI i) + (nI 1)) = (nI (i + 1)) := px_eadd rfl rfl
        refine XG.blk tX9_loadOn_ok 19 13 (pc' := 49) (pl' := [some (.ref 0), some (.int p), some (.int ((itN (loadF (a 55) (a 32) lv p) 0 i) + ((a 32) (((nI 5) * (v 18)) + (nI i)).toNatClampNeg))), some (.int ((nI i) + (nI 1)))]) (st' := []) (W1 := (mW v a b)) (bs := [px_vb (((nI 5) * (v 18)) + (nI i)) 10]) rfl rfl (by (try simp only [q7, q8, q9, q10, q11]); exact (px_all (px_vbN (by omega) (by decide)) rfl)) ?_
        simp only [q7, q8, q9, q10, q11]
        refine XG.goto eX9_loadOn_49 (tgt := 4) (by decide) ?_
        rw [show itN (loadF (a 55) (a 32) lv p) 0 (i + 1) = itN (loadF (a 55) (a 32) lv p) 0 i + a 32 (5 * lv + i) from if_pos h27] at ih; exact ih
