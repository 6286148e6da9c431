/-! the reference: is it an order; what an order brings -/
def usF (hm y : Nat) : Nat → Int32 := itN (fun k u => u ||| (nI 1 <<< (nI (dig y (hm - 1 - k)) &&& 31))) 0
abbrev okO (hm y : Nat) : Prop := ∀ k, k < hm → dig y (hm - 1 - k) < hm ∧ ¬ ((usF hm y k >>> (nI (dig y (hm - 1 - k)) &&& 31)) &&& nI 1) = nI 1
set_option maxHeartbeats 400000 in
theorem con_isOrder (d : Nat) (v : Nat → Int32) (a : Nat → Nat → Int32) (b : Nat → Nat → Int64) (hm y : Nat) (h66 : v 66 = nI hm) (hm5 : hm ≤ 5) (hy : y < 2 ^ 31) (hd : 1 ≤ d) : Con mX9_isOrder d [.ref 0, .int (nI y)] (mW v a b) (fun r W' => W' = mW v a b ∧ r = some (.int (if okO hm y then 1 else 0))) := by
  refine Con.of (by decide) (Nat.le_of_ble_eq_true rfl) ?_
  refine XG.blk tX9_isOrder_ok 0 4 (pc' := 4) (pl' := [some (.ref 0), some (.int (nI y)), some (.int (nI 0)), some (.int (nI 0)), none]) (st' := []) (W1 := (mW v a b)) (bs := []) rfl rfl rfl ?_
  refine px_for hm (fun k => ∀ (hok : ∀ k9, k9 < k → dig y (hm - 1 - k9) < hm ∧ ¬ ((usF hm y k9 >>> (nI (dig y (hm - 1 - k9)) &&& 31)) &&& nI 1) = nI 1), XG mX9_isOrder _ 0 0 4 [some (.ref 0), some (.int (nI y)), some (.int (usF hm y k)), some (.int (nI k)), none] [] (mW v a b)) ?_ ?_ 0 (Nat.zero_le _) (fun k9 h9 => absurd h9 (Nat.not_lt_zero _))
  · intro hok
    have q1 : (v 66) = (nI hm) := h66
    refine XG.blk tX9_isOrder_ok 4 3 (pc' := 9) (pl' := [some (.ref 0), some (.int (nI y)), some (.int (usF hm y hm)), some (.int (nI hm)), none]) (st' := [(.int (v 66)), (.int (nI hm))]) (W1 := (mW v a b)) (bs := []) rfl rfl rfl ?_
    simp only [q1]
    refine XG.br eX9_isOrder_9 (P := (nI hm) ≤ (nI hm)) (r := []) rfl (tgt := 63) (by decide) (fun h9 => ?_) (fun h9 => ?_)
    · skip
      have g9 : hm ≤ hm := (nI_leI (a := hm) (b := hm) (by omega) (by omega)).mp h9
      refine XG.blk tX9_isOrder_ok 41 1 (pc' := 64) (pl' := [some (.ref 0), some (.int (nI y)), some (.int (usF hm y hm)), some (.int (nI hm)), none]) (st' := [(.int (nI 1))]) (W1 := (mW v a b)) (bs := []) rfl rfl rfl ?_
      refine XS.iret eX9_isOrder_64 rfl (by decide) ?_
      exact ⟨rfl, by rw [if_pos hok]; rfl⟩
    · exfalso
      have g9 : ¬ hm ≤ hm := (fun z => h9 ((nI_leI (a := hm) (b := hm) (by omega) (by omega)).mpr z))
      omega
  · intro k hk ihk hok
    have hdl := dig_lt y ((hm - 1) - k)
    have q2 : (v 66) = (nI hm) := h66
    refine XG.blk tX9_isOrder_ok 4 3 (pc' := 9) (pl' := [some (.ref 0), some (.int (nI y)), some (.int (usF hm y k)), some (.int (nI k)), none]) (st' := [(.int (v 66)), (.int (nI k))]) (W1 := (mW v a b)) (bs := []) rfl rfl rfl ?_
    simp only [q2]
    refine XG.br eX9_isOrder_9 (P := (nI hm) ≤ (nI k)) (r := []) rfl (tgt := 63) (by decide) (fun h9 => ?_) (fun h9 => ?_)
    · exfalso
      have g9 : hm ≤ k := (nI_leI (a := hm) (b := k) (by omega) (by omega)).mp h9
      omega
    · skip
      have g9 : ¬ hm ≤ k := (fun z => h9 ((nI_leI (a := hm) (b := k) (by omega) (by omega)).mpr z))
      have q3 : (v 66) = (nI hm) := h66
      have q4 : ((nI hm) - (nI 1)) = (nI (hm - 1)) := px_esub rfl rfl (by omega)
      have q5 : ((nI (hm - 1)) - (nI k)) = (nI ((hm - 1) - k)) := px_esub rfl rfl (by omega)
      refine XG.blk tX9_isOrder_ok 8 7 (pc' := 21) (pl' := [some (.ref 0), some (.int (nI y)), some (.int (usF hm y k)), some (.int (nI k)), none]) (st' := [(.int (((v 66) - (nI 1)) - (nI k))), (.int (nI y))]) (W1 := (mW v a b)) (bs := []) rfl rfl rfl ?_
      simp only [q3, q4, q5]
      refine XG.callSp (r := some (.int (nI (5 ^ ((hm - 1) - k))))) eX9_isOrder_21 kl_X9_430 (con_fives (d - 1) ((hm - 1) - k) (by omega)) (px_fitS (by omega)) rfl rfl rfl rfl (Nat.le_of_ble_eq_true rfl) ?_
      have q6 : (((nI y) / (nI (5 ^ ((hm - 1) - k)))) - ((nI y) / (nI (5 ^ ((hm - 1) - k)))) / (nI 5) * (nI 5)) = (nI (dig y ((hm - 1) - k))) := dig_eq hy (by omega)
      have q7 : (v 66) = (nI hm) := h66
      refine XG.blk tX9_isOrder_ok 16 7 (pc' := 35) (pl' := [some (.ref 0), some (.int (nI y)), some (.int (usF hm y k)), some (.int (nI k)), some (.int (((nI y) / (nI (5 ^ ((hm - 1) - k)))) - ((nI y) / (nI (5 ^ ((hm - 1) - k)))) / (nI 5) * (nI 5)))]) (st' := [(.int (v 66)), (.int (((nI y) / (nI (5 ^ ((hm - 1) - k)))) - ((nI y) / (nI (5 ^ ((hm - 1) - k)))) / (nI 5) * (nI 5)))]) (W1 := (mW v a b)) (bs := [!((nI (5 ^ ((hm - 1) - k))) == 0), !((nI 5) == 0)]) rfl rfl (by (try simp only [q6, q7]); exact (px_all ((nz5 (by omega))) (px_all (rfl) rfl))) ?_
      simp only [q6, q7]
      refine XG.br eX9_isOrder_35 (P := (nI hm) ≤ (nI (dig y ((hm - 1) - k)))) (r := []) rfl (tgt := 48) (by decide) (fun h35 => ?_) (fun h35 => ?_)
      · skip
        have g35 : hm ≤ (dig y ((hm - 1) - k)) := (nI_leI (a := hm) (b := (dig y ((hm - 1) - k))) (by omega) (by omega)).mp h35
        refine XG.blk tX9_isOrder_ok 31 1 (pc' := 49) (pl' := [some (.ref 0), some (.int (nI y)), some (.int (usF hm y k)), some (.int (nI k)), some (.int (nI (dig y ((hm - 1) - k))))]) (st' := [(.int (nI 0))]) (W1 := (mW v a b)) (bs := []) rfl rfl rfl ?_
        refine XS.iret eX9_isOrder_49 rfl (by decide) ?_
        exact ⟨rfl, by rw [if_neg (fun hc => absurd (hc k hk).1 (by omega))]; rfl⟩
      · skip
        have g35 : ¬ hm ≤ (dig y ((hm - 1) - k)) := (fun z => h35 ((nI_leI (a := hm) (b := (dig y ((hm - 1) - k))) (by omega) (by omega)).mpr z))
        refine XG.blk tX9_isOrder_ok 24 6 (pc' := 45) (pl' := [some (.ref 0), some (.int (nI y)), some (.int (usF hm y k)), some (.int (nI k)), some (.int (nI (dig y ((hm - 1) - k))))]) (st' := [(.int (nI 1)), (.int (((usF hm y k) >>> ((nI (dig y ((hm - 1) - k))) &&& 31)) &&& (nI 1)))]) (W1 := (mW v a b)) (bs := []) rfl rfl rfl ?_
        refine XG.br eX9_isOrder_45 (P := ¬ (((usF hm y k) >>> ((nI (dig y ((hm - 1) - k))) &&& 31)) &&& (nI 1)) = (nI 1)) (r := []) rfl (tgt := 50) (by decide) (fun h45 => ?_) (fun h45 => ?_)
        · skip
          have q8 : ((nI k) + (nI 1)) = (nI (k + 1)) := px_eadd rfl rfl
          refine XG.blk tX9_isOrder_ok 33 7 (pc' := 60) (pl' := [some (.ref 0), some (.int (nI y)), some (.int ((usF hm y k) ||| ((nI 1) <<< ((nI (dig y ((hm - 1) - k))) &&& 31)))), some (.int ((nI k) + (nI 1))), some (.int (nI (dig y ((hm - 1) - k))))]) (st' := []) (W1 := (mW v a b)) (bs := []) rfl rfl rfl ?_
          simp only [q8]
          refine XG.goto eX9_isOrder_60 (tgt := 4) (by decide) ?_
          refine XG.weak (pl' := [some (.ref 0), some (.int (nI y)), some (.int (usF hm y (k + 1))), some (.int (nI (k + 1))), none]) ⟨rfl, rfl, rfl, rfl, trivial⟩ ?_
          exact ihk (fun k9 h9 => by rcases (show k9 < k ∨ k9 = k by omega) with h | h; exact hok k9 h; subst h; exact ⟨by omega, h45⟩)
        · skip
          have h45 := Decidable.not_not.mp h45
          refine XG.blk tX9_isOrder_ok 31 1 (pc' := 49) (pl' := [some (.ref 0), some (.int (nI y)), some (.int (usF hm y k)), some (.int (nI k)), some (.int (nI (dig y ((hm - 1) - k))))]) (st' := [(.int (nI 0))]) (W1 := (mW v a b)) (bs := []) rfl rfl rfl ?_
          refine XS.iret eX9_isOrder_49 rfl (by decide) ?_
          exact ⟨rfl, by rw [if_neg (fun hc => (hc k hk).2 h45)]; rfl⟩
def tbF (v0 : Nat → Int32) (a0 : Nat → Nat → Int32) (lv sp sl cr hm : Nat) (hc : Nat → Nat) (y : Nat) : Nat → (Nat → Int32) → (Nat → Int32) := fun k r => hourF v0 a0 lv sp sl cr (if k < hm then upd r (18 + hc (dig y (hm - 1 - k))) (-3) else r)
def tbR (v0 : Nat → Int32) (a0 : Nat → Nat → Int32) (lv sp sl cr hm : Nat) (hc : Nat → Nat) (y : Nat) (r : Nat → Int32) (k : Nat) : Nat → Int32 := itN (tbF v0 a0 lv sp sl cr hm hc y) r k
def tbV (v : Nat → Int32) (a : Nat → Nat → Int32) (lv sp sl cr hm : Nat) (hc : Nat → Nat) (y : Nat) : Int32 := tbR (vQ v a lv (nI 1)) (aQ a) lv sp sl cr hm hc y (a 54) 20 31 - a 54 31
set_option maxHeartbeats 400000 in
theorem con_tollBy (d : Nat) (v : Nat → Int32) (a : Nat → Nat → Int32) (b : Nat → Nat → Int64) (lv sp sl cr : Nat) (I : MI v a lv sp sl cr) (hwf : wf3 a lv) (hm y : Nat) (h66 : v 66 = nI hm) (hm5 : hm ≤ 5) (hy : y < 2 ^ 31) (hc : Nat → Nat) (hat : ∀ i, i < hm → a 65 i = nI (hc i) ∧ hc i < cr) (hok : okO hm y) (hd : 9 ≤ d) : Con mX9_tollBy d [.ref 0, .int (nI y)] (mW v a b) (fun r W' => ∃ v' a', W' = mW v' a' b ∧ chg [53, 56, 57] v v' ∧ chg junkS a a' ∧ r = some (.int (tbV v a lv sp sl cr hm hc y))) := by
  obtain ⟨hlv, hlv2, hsp, hsp1, hsp2, hsl, hsl2, hcr, hcr2⟩ := id I
  refine Con.of (by decide) (Nat.le_of_ble_eq_true rfl) ?_
  refine XG.blk tX9_tollBy_ok 0 1 (pc' := 1) (pl' := [some (.ref 0), some (.int (nI y)), none]) (st' := [(.ref 0)]) (W1 := (mW v a b)) (bs := []) rfl rfl rfl ?_
  refine XG.callV0 eX9_tollBy_1 kl_X9_400 (con_copQ (d - 1) v a b lv sp sl cr I) (px_fitS (by omega)) rfl rfl rfl (Nat.le_of_ble_eq_true rfl) (fun r9 W9 hp9 hl9 => ?_)
  obtain ⟨rfl, rfl⟩ := hp9
  refine XG.blk tX9_tollBy_ok 2 5 (pc' := 11) (pl' := [some (.ref 0), some (.int (nI y)), some (.int (nI 0))]) (st' := []) (W1 := (mW (va_up (vQ v a lv 0) 57 (nI 1)) (aQ a) b)) (bs := [((nI 1) == 0 || (nI 1) == 1)]) rfl rfl (px_all (rfl) rfl) ?_
  show XG _ _ _ _ 11 [some (.ref 0), some (.int (nI y)), some (.int (nI 0))] [] (mW (vQ v a lv (nI 1)) (aQ a) b)
  obtain ⟨v0, hv0⟩ : ∃ z, z = vQ v a lv (nI 1) := ⟨_, rfl⟩
  obtain ⟨a0, ha0⟩ : ∃ z, z = aQ a := ⟨_, rfl⟩
  rw [← hv0, ← ha0]
  have hK9 : K v0 a0 (a 54) (a 60) v0 a0 := by rw [hv0, ha0]; exact kQ
  have I0 : MI v0 a0 lv sp sl cr := by rw [hv0, ha0]; exact I
  have hw3 : wf3 a0 lv := by rw [ha0]; exact wf3_Q hwf
  have h660 : v0 66 = nI hm := by rw [hv0]; exact h66
  obtain ⟨-, -, hsp, -, -, hsl, -, hcr, -⟩ := id I0
  have e65 : a0 65 = a 65 := ha0 ▸ rfl
  refine px_for 20 (fun k => ∀ (w v9 : Nat → Int32) (a9 : Nat → Nat → Int32) (hK9 : K v0 a0 (tbR v0 a0 lv sp sl cr hm hc y (a 54) k) w v9 a9), XG mX9_tollBy _ 0 0 11 [some (.ref 0), some (.int (nI y)), some (.int (nI k))] [] (mW v9 a9 b)) ?_ ?_ 0 (Nat.zero_le _) _ _ _ hK9
  · intro w v9 a9 hK9
    have hlv9 := (hK9.MI I0).1
    have h669 : v9 66 = nI hm := (hK9.1 66 (by decide)).trans h660
    refine XG.blk tX9_tollBy_ok 7 2 (pc' := 14) (pl' := [some (.ref 0), some (.int (nI y)), some (.int (nI 20))]) (st' := [(.int (nI 20)), (.int (nI 20))]) (W1 := (mW v9 a9 b)) (bs := []) rfl rfl rfl ?_
    refine XG.br eX9_tollBy_14 (P := (nI 20) ≤ (nI 20)) (r := []) rfl (tgt := 65) (by decide) (fun h14 => ?_) (fun h14 => ?_)
    · skip
      have g14 : 20 ≤ 20 := (nI_leI (a := 20) (b := 20) (by omega) (by omega)).mp h14
      have q1 : (a9 55) = (tbR v0 a0 lv sp sl cr hm hc y (a 54) 20) := hK9.2.2.1
      have q2 : (nI 31).toNatClampNeg = 31 := nI_clamp (by omega)
      have q3 : (a9 54) = (a0 54) := hK9.2.1 54 (by decide)
      refine XG.blk tX9_tollBy_ok 38 9 (pc' := 80) (pl' := [some (.ref 0), some (.int (nI y)), some (.int (nI 20))]) (st' := [(.int (((a9 55) (nI 31).toNatClampNeg) - ((a9 54) (nI 31).toNatClampNeg)))]) (W1 := (mW v9 a9 b)) (bs := [px_vb (nI 31) 32, px_vb (nI 31) 32]) rfl rfl (by (try simp only [q1, q2, q3]); exact (px_all (px_vbN (by omega) (by decide)) (px_all (px_vbN (by omega) (by decide)) rfl))) ?_
      simp only [q1, q2, q3]
      refine XS.iret eX9_tollBy_80 rfl rfl ?_
      exact ⟨_, _, rfl, (show chg [53, 56, 57] v v0 by rw [hv0]; exact (chg.up (by decide)).tr (chg.up (by decide))).tr (hK9.1.mono (by decide)), (show chg junkS a a0 by rw [ha0]; exact chg.up (by decide)).tr hK9.2.1, by unfold tbV; rw [← hv0, ← ha0, show a0 54 = a 54 from ha0 ▸ rfl]⟩
    · exfalso
      have g14 : ¬ 20 ≤ 20 := (fun z => h14 ((nI_leI (a := 20) (b := 20) (by omega) (by omega)).mpr z))
      omega
  · intro k hk ihk w v9 a9 hK9
    have hlv9 := (hK9.MI I0).1
    have h669 : v9 66 = nI hm := (hK9.1 66 (by decide)).trans h660
    have hdl := dig_lt y ((hm - 1) - k)
    have hhc : k < hm → hc (dig y ((hm - 1) - k)) < cr := fun h => (hat _ (hok k h).1).2
    refine XG.blk tX9_tollBy_ok 7 2 (pc' := 14) (pl' := [some (.ref 0), some (.int (nI y)), some (.int (nI k))]) (st' := [(.int (nI 20)), (.int (nI k))]) (W1 := (mW v9 a9 b)) (bs := []) rfl rfl rfl ?_
    refine XG.br eX9_tollBy_14 (P := (nI 20) ≤ (nI k)) (r := []) rfl (tgt := 65) (by decide) (fun h14 => ?_) (fun h14 => ?_)
    · exfalso
      have g14 : 20 ≤ k := (nI_leI (a := 20) (b := k) (by omega) (by omega)).mp h14
      omega
    · skip
      have g14 : ¬ 20 ≤ k := (fun z => h14 ((nI_leI (a := 20) (b := k) (by omega) (by omega)).mpr z))
      have q4 : (v9 66) = (nI hm) := h669
      refine XG.blk tX9_tollBy_ok 10 3 (pc' := 22) (pl' := [some (.ref 0), some (.int (nI y)), some (.int (nI k))]) (st' := [(.int (v9 66)), (.int (nI k))]) (W1 := (mW v9 a9 b)) (bs := []) rfl rfl rfl ?_
      simp only [q4]
      refine XG.br eX9_tollBy_22 (P := (nI hm) ≤ (nI k)) (r := []) rfl (tgt := 55) (by decide) (fun h22 => ?_) (fun h22 => ?_)
      · skip
        have g22 : hm ≤ k := (nI_leI (a := hm) (b := k) (by omega) (by omega)).mp h22
        refine XG.blk tX9_tollBy_ok 34 1 (pc' := 56) (pl' := [some (.ref 0), some (.int (nI y)), some (.int (nI k))]) (st' := [(.ref 0)]) (W1 := (mW v9 a9 b)) (bs := []) rfl rfl rfl ?_
        refine XG.callV0 eX9_tollBy_56 kl_X9_394 (con_hourGoes (d - 1) v0 v9 a0 a9 b (tbR v0 a0 lv sp sl cr hm hc y (a 54) k) _ hK9 lv sp sl cr I0 hw3 (by omega)) (px_fitS (by omega)) rfl rfl rfl (Nat.le_of_ble_eq_true rfl) (fun r9 W9 hp9 hl9 => ?_)
        obtain ⟨v21, a21, w21, rfl, hK21, rfl⟩ := hp9
        have hlv21 := (hK21.MI I0).1
        have q5 : ((nI k) + (nI 1)) = (nI (k + 1)) := px_eadd rfl rfl
        refine XG.blk tX9_tollBy_ok 36 1 (pc' := 62) (pl' := [some (.ref 0), some (.int (nI y)), some (.int ((nI k) + (nI 1)))]) (st' := []) (W1 := (mW v21 a21 b)) (bs := []) rfl rfl rfl ?_
        simp only [q5]
        refine XG.goto eX9_tollBy_62 (tgt := 11) (by decide) ?_
        rw [show (tbR v0 a0 lv sp sl cr hm hc y (a 54) (k + 1)) = (hourF v0 a0 lv sp sl cr (tbR v0 a0 lv sp sl cr hm hc y (a 54) k)) from congrArg (hourF v0 a0 lv sp sl cr) (if_neg (by omega))] at ihk
        exact ihk _ v21 a21 hK21
      · skip
        have g22 : ¬ hm ≤ k := (fun z => h22 ((nI_leI (a := hm) (b := k) (by omega) (by omega)).mpr z))
        have q6 : (v9 66) = (nI hm) := h669
        have q7 : ((nI hm) - (nI 1)) = (nI (hm - 1)) := px_esub rfl rfl (by omega)
        have q8 : ((nI (hm - 1)) - (nI k)) = (nI ((hm - 1) - k)) := px_esub rfl rfl (by omega)
        refine XG.blk tX9_tollBy_ok 14 12 (pc' := 44) (pl' := [some (.ref 0), some (.int (nI y)), some (.int (nI k))]) (st' := [(.int (((v9 66) - (nI 1)) - (nI k))), (.int (nI y)), (.ref 43), (.int (nI 18)), (.ref 38)]) (W1 := (mW v9 a9 b)) (bs := []) rfl rfl rfl ?_
        simp only [q6, q7, q8]
        refine XG.callSp (r := some (.int (nI (5 ^ ((hm - 1) - k))))) eX9_tollBy_44 kl_X9_430 (con_fives (d - 1) ((hm - 1) - k) (by omega)) (px_fitS (by omega)) rfl rfl rfl rfl (Nat.le_of_ble_eq_true rfl) ?_
        have q9 : (((nI y) / (nI (5 ^ ((hm - 1) - k)))) - ((nI y) / (nI (5 ^ ((hm - 1) - k)))) / (nI 5) * (nI 5)) = (nI (dig y ((hm - 1) - k))) := dig_eq hy (by omega)
        have q10 : (a9 65) = (a 65) := (hK9.2.1 65 (by decide)).trans e65
        have q11 : (nI (dig y ((hm - 1) - k))).toNatClampNeg = (dig y ((hm - 1) - k)) := nI_clamp (by omega)
        have q12 : ((a 65) (dig y ((hm - 1) - k))) = (nI (hc (dig y ((hm - 1) - k)))) := (hat _ (hok k (by omega)).1).1
        have q13 : ((nI 18) + (nI (hc (dig y ((hm - 1) - k))))) = (nI (18 + (hc (dig y ((hm - 1) - k))))) := px_eadd rfl rfl
        have q14 : (a9 55) = (tbR v0 a0 lv sp sl cr hm hc y (a 54) k) := hK9.2.2.1
        have q15 : (nI (18 + (hc (dig y ((hm - 1) - k))))).toNatClampNeg = (18 + (hc (dig y ((hm - 1) - k)))) := nI_clamp (by omega)
        refine XG.blk tX9_tollBy_ok 27 8 (pc' := 56) (pl' := [some (.ref 0), some (.int (nI y)), some (.int (nI k))]) (st' := [(.ref 0)]) (W1 := (mW v9 (va_up a9 55 (upd (a9 55) ((nI 18) + ((a9 65) (((nI y) / (nI (5 ^ ((hm - 1) - k)))) - ((nI y) / (nI (5 ^ ((hm - 1) - k)))) / (nI 5) * (nI 5)).toNatClampNeg)).toNatClampNeg (-3))) b)) (bs := [!((nI (5 ^ ((hm - 1) - k))) == 0), !((nI 5) == 0), px_vb (((nI y) / (nI (5 ^ ((hm - 1) - k)))) - ((nI y) / (nI (5 ^ ((hm - 1) - k)))) / (nI 5) * (nI 5)) 5, px_vb ((nI 18) + ((a9 65) (((nI y) / (nI (5 ^ ((hm - 1) - k)))) - ((nI y) / (nI (5 ^ ((hm - 1) - k)))) / (nI 5) * (nI 5)).toNatClampNeg)) 32]) rfl rfl (by (try simp only [q9, q10, q11, q12, q13, q14, q15]); exact (px_all ((nz5 (by omega))) (px_all (rfl) (px_all (px_vbN (by omega) (by decide)) (px_all (px_vbN (by omega) (by decide)) rfl))))) ?_
        simp only [q9, q10, q11, q12, q13, q14, q15]
        refine XG.callV0 eX9_tollBy_56 kl_X9_394 (con_hourGoes (d - 1) v0 v9 a0 (va_up a9 55 (upd (tbR v0 a0 lv sp sl cr hm hc y (a 54) k) (18 + (hc (dig y ((hm - 1) - k)))) (-3))) b (upd (tbR v0 a0 lv sp sl cr hm hc y (a 54) k) (18 + (hc (dig y ((hm - 1) - k)))) (-3)) _ (K.row hK9 (upd (tbR v0 a0 lv sp sl cr hm hc y (a 54) k) (18 + (hc (dig y ((hm - 1) - k)))) (-3))) lv sp sl cr I0 hw3 (by omega)) (px_fitS (by omega)) rfl rfl rfl (Nat.le_of_ble_eq_true rfl) (fun r9 W9 hp9 hl9 => ?_)
        obtain ⟨v22, a22, w22, rfl, hK22, rfl⟩ := hp9
        have hlv22 := (hK22.MI I0).1
        have q16 : ((nI k) + (nI 1)) = (nI (k + 1)) := px_eadd rfl rfl
        refine XG.blk tX9_tollBy_ok 36 1 (pc' := 62) (pl' := [some (.ref 0), some (.int (nI y)), some (.int ((nI k) + (nI 1)))]) (st' := []) (W1 := (mW v22 a22 b)) (bs := []) rfl rfl rfl ?_
        simp only [q16]
        refine XG.goto eX9_tollBy_62 (tgt := 11) (by decide) ?_
        rw [show (tbR v0 a0 lv sp sl cr hm hc y (a 54) (k + 1)) = (hourF v0 a0 lv sp sl cr (upd (tbR v0 a0 lv sp sl cr hm hc y (a 54) k) (18 + (hc (dig y ((hm - 1) - k)))) (-3))) from congrArg (hourF v0 a0 lv sp sl cr) (if_pos (by omega))] at ihk
        exact ihk _ v22 a22 hK22
