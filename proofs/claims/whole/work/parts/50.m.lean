/-! the reference: nights; undone, held, restored; told and forgotten -/
def nbS (dt : Nat → Int32) (lv : Nat) : Nat → (Nat → Int32) → (Nat → Int32) := fun x r => upd (upd r x (dt (6 * lv + x))) (6 + x) (nI 0)
def nbF (dt : Nat → Int32) (lv sl : Nat) (r : Nat → Int32) : Nat → Int32 := upd (upd (itN (nbS dt lv) r sl) 28 (nI 0)) 29 (upd (itN (nbS dt lv) r sl) 28 (nI 0) 29 + nI 1)
set_option maxHeartbeats 400000 in
theorem con_nightBegins (d : Nat) (v : Nat → Int32) (a : Nat → Nat → Int32) (b : Nat → Nat → Int64) (lv sp sl cr : Nat) (I : MI v a lv sp sl cr) : Con mX9_nightBegins d [.ref 0] (mW v a b) (fun r W' => W' = mW v (va_up a 55 (nbF (a 25) lv sl (a 55))) b ∧ r = none) := by
  obtain ⟨hlv, hlv2, hsp, hsp1, hsp2, hsl, hsl2, hcr, hcr2⟩ := id I
  refine Con.of (by decide) (Nat.le_of_ble_eq_true rfl) ?_
  refine XG.blk tX9_nightBegins_ok 0 2 (pc' := 2) (pl' := [some (.ref 0), some (.int (nI 0))]) (st' := []) (W1 := (mW v a b)) (bs := []) rfl rfl rfl ?_
  rw [show mW v a b = mW v (va_up a 55 (itN (nbS (a 25) lv) (a 55) 0)) b by rw [show (itN (nbS (a 25) lv) (a 55) 0) = a 55 from rfl, va_up_id]]
  refine px_for sl (fun i => XG mX9_nightBegins _ 0 0 2 [some (.ref 0), some (.int (nI i))] [] (mW v (va_up a 55 (itN (nbS (a 25) lv) (a 55) i)) b)) ?_ ?_ 0 (by omega)
  · skip
    have q1 : (v 18) = (nI lv) := hlv
    have q2 : (nI lv).toNatClampNeg = lv := nI_clamp (by omega)
    have q3 : ((a 24) lv) = (nI sl) := hsl
    refine XG.blk tX9_nightBegins_ok 2 6 (pc' := 12) (pl' := [some (.ref 0), some (.int (nI sl))]) (st' := [(.int ((a 24) (v 18).toNatClampNeg)), (.int (nI sl))]) (W1 := (mW v (va_up a 55 (itN (nbS (a 25) lv) (a 55) sl)) b)) (bs := [px_vb (v 18) 2]) rfl rfl (by (try simp only [q1, q2, q3]); exact (px_all (px_vbN (by omega) (by decide)) rfl)) ?_
    simp only [q1, q2, q3]
    refine XG.br eX9_nightBegins_12 (P := (nI sl) ≤ (nI sl)) (r := []) rfl (tgt := 51) (by decide) (fun h12 => ?_) (fun h12 => ?_)
    · skip
      have g12 : sl ≤ sl := (nI_leI (a := sl) (b := sl) (by omega) (by omega)).mp h12
      have q4 : (nI 28).toNatClampNeg = 28 := nI_clamp (by omega)
      have q5 : (nI 29).toNatClampNeg = 29 := nI_clamp (by omega)
      refine XG.blk tX9_nightBegins_ok 31 13 (pc' := 70) (pl' := [some (.ref 0), some (.int (nI sl))]) (st' := []) (W1 := (mW v (va_up a 55 (upd (upd (itN (nbS (a 25) lv) (a 55) sl) (nI 28).toNatClampNeg (nI 0)) (nI 29).toNatClampNeg (((upd (itN (nbS (a 25) lv) (a 55) sl) (nI 28).toNatClampNeg (nI 0)) (nI 29).toNatClampNeg) + (nI 1)))) b)) (bs := [px_vb (nI 28) 32, px_vb (nI 29) 32, px_vb (nI 29) 32]) rfl rfl (by (try simp only [q4, q5]); exact (px_all (px_vbN (by omega) (by decide)) (px_all (px_vbN (by omega) (by decide)) (px_all (px_vbN (by omega) (by decide)) rfl)))) ?_
      simp only [q4, q5]
      refine XS.vret eX9_nightBegins_70 rfl ?_
      unfold nbF; exact ⟨rfl, rfl⟩
    · exfalso
      have g12 : ¬ sl ≤ sl := (fun z => h12 ((nI_leI (a := sl) (b := sl) (by omega) (by omega)).mpr z))
      omega
  · intro i hi ihi
    have q6 : (v 18) = (nI lv) := hlv
    have q7 : (nI lv).toNatClampNeg = lv := nI_clamp (by omega)
    have q8 : ((a 24) lv) = (nI sl) := hsl
    refine XG.blk tX9_nightBegins_ok 2 6 (pc' := 12) (pl' := [some (.ref 0), some (.int (nI i))]) (st' := [(.int ((a 24) (v 18).toNatClampNeg)), (.int (nI i))]) (W1 := (mW v (va_up a 55 (itN (nbS (a 25) lv) (a 55) i)) b)) (bs := [px_vb (v 18) 2]) rfl rfl (by (try simp only [q6, q7, q8]); exact (px_all (px_vbN (by omega) (by decide)) rfl)) ?_
    simp only [q6, q7, q8]
    refine XG.br eX9_nightBegins_12 (P := (nI sl) ≤ (nI i)) (r := []) rfl (tgt := 51) (by decide) (fun h12 => ?_) (fun h12 => ?_)
    · exfalso
      have g12 : sl ≤ i := (nI_leI (a := sl) (b := i) (by omega) (by omega)).mp h12
      omega
    · skip
      have g12 : ¬ sl ≤ i := (fun z => h12 ((nI_leI (a := sl) (b := i) (by omega) (by omega)).mpr z))
      have q9 : (v 18) = (nI lv) := hlv
      have q10 : ((nI 6) * (nI lv)) = (nI (6 * lv)) := px_emul rfl rfl
      have q11 : ((nI (6 * lv)) + (nI i)) = (nI ((6 * lv) + i)) := px_eadd rfl rfl
      have q12 : (nI ((6 * lv) + i)).toNatClampNeg = ((6 * lv) + i) := nI_clamp (by omega)
      have q13 : (nI i).toNatClampNeg = i := nI_clamp (by omega)
      have q14 : ((nI 6) + (nI i)) = (nI (6 + i)) := px_eadd rfl rfl
      have q15 : (nI (6 + i)).toNatClampNeg = (6 + i) := nI_clamp (by omega)
      have q16 : ((nI i) + (nI 1)) = (nI (i + 1)) := px_eadd rfl rfl
      refine XG.blk tX9_nightBegins_ok 9 21 (pc' := 48) (pl' := [some (.ref 0), some (.int ((nI i) + (nI 1)))]) (st' := []) (W1 := (mW v (va_up a 55 (upd (upd (itN (nbS (a 25) lv) (a 55) i) (nI i).toNatClampNeg ((a 25) (((nI 6) * (v 18)) + (nI i)).toNatClampNeg)) ((nI 6) + (nI i)).toNatClampNeg (nI 0))) b)) (bs := [px_vb (((nI 6) * (v 18)) + (nI i)) 12, px_vb (nI i) 32, px_vb ((nI 6) + (nI i)) 32]) rfl rfl (by (try simp only [q9, q10, q11, q12, q13, q14, q15, q16]); exact (px_all (px_vbN (by omega) (by decide)) (px_all (px_vbN (by omega) (by decide)) (px_all (px_vbN (by omega) (by decide)) rfl)))) ?_
      simp only [q9, q10, q11, q12, q13, q14, q15, q16]
      refine XG.goto eX9_nightBegins_48 (tgt := 2) (by decide) ?_
      rw [show (itN (nbS (a 25) lv) (a 55) (i + 1)) = upd (upd (itN (nbS (a 25) lv) (a 55) i) i (a 25 (6 * lv + i))) (6 + i) (nI 0) from rfl] at ihi
      exact ihi
def niF : Nat → (Nat → Int32) → (Nat → Int32) := fun c r => if r (18 + c) = nI 9 ∨ r (18 + c) = -3 then upd r (18 + c) (-2) else if r (18 + c) < 0 then r else upd r (18 + c) (nI 10)
def nightR (a : Nat → Nat → Int32) (lv sl cr : Nat) : Nat → Int32 := itN niF (nbF (a 25) lv sl (a 54)) cr
set_option maxHeartbeats 400000 in
theorem con_night (d : Nat) (v : Nat → Int32) (a : Nat → Nat → Int32) (b : Nat → Nat → Int64) (lv sp sl cr : Nat) (I : MI v a lv sp sl cr) (hwf : wf3 a lv) (u : Nat) (hu : v 61 = nI u) (hu2 : u ≤ 40) (hd : 3 ≤ d) : Con mX9_night d [.ref 0] (mW v a b) (fun r W' => ∃ v' a', W' = mW v' a' b ∧ Nw v v' a a' u (nightR a lv sl cr) ∧ r = some (.int (nightR a lv sl cr 29))) := by
  obtain ⟨hlv, hlv2, hsp, hsp1, hsp2, hsl, hsl2, hcr, hcr2⟩ := id I
  refine Con.of (by decide) (Nat.le_of_ble_eq_true rfl) ?_
  refine XG.blk tX9_night_ok 0 1 (pc' := 1) (pl' := [some (.ref 0), none]) (st' := [(.ref 0)]) (W1 := (mW v a b)) (bs := []) rfl rfl rfl ?_
  refine XG.callV0 eX9_night_1 kl_X9_400 (con_copQ (d - 1) v a b lv sp sl cr I) (px_fitS (by omega)) rfl rfl rfl (Nat.le_of_ble_eq_true rfl) (fun r9 W9 hp9 hl9 => ?_)
  obtain ⟨rfl, rfl⟩ := hp9
  refine XG.blk tX9_night_ok 2 1 (pc' := 5) (pl' := [some (.ref 0), none]) (st' := [(.ref 0)]) (W1 := (mW (vQ v a lv 0) (aQ a) b)) (bs := []) rfl rfl rfl ?_
  refine XG.callV0 eX9_night_5 kl_X9_335 (con_nightBegins (d - 1) (vQ v a lv 0) (aQ a) b lv sp sl cr I) (px_fitS (by omega)) rfl rfl rfl (Nat.le_of_ble_eq_true rfl) (fun r9 W9 hp9 hl9 => ?_)
  obtain ⟨rfl, rfl⟩ := hp9
  refine XG.blk tX9_night_ok 4 2 (pc' := 10) (pl' := [some (.ref 0), some (.int (nI 0))]) (st' := []) (W1 := (mW (vQ v a lv 0) (va_up (aQ a) 55 (nbF (a 25) lv sl (a 54))) b)) (bs := []) rfl rfl rfl ?_
  refine px_for cr (fun i => XG mX9_night _ 0 0 10 [some (.ref 0), some (.int (nI i))] [] (mW (vQ v a lv 0) (va_up (aQ a) 55 (itN niF (nbF (a 25) lv sl (a 54)) i)) b)) ?_ ?_ 0 (by omega)
  · skip
    have q1 : ((vQ v a lv 0) 18) = (nI lv) := hlv
    have q2 : ((aQ a) 31) = (a 31) := rfl
    have q3 : (nI lv).toNatClampNeg = lv := nI_clamp (by omega)
    have q4 : ((a 31) lv) = (nI cr) := hcr
    refine XG.blk tX9_night_ok 6 6 (pc' := 20) (pl' := [some (.ref 0), some (.int (nI cr))]) (st' := [(.int (((aQ a) 31) ((vQ v a lv 0) 18).toNatClampNeg)), (.int (nI cr))]) (W1 := (mW (vQ v a lv 0) (va_up (aQ a) 55 (itN niF (nbF (a 25) lv sl (a 54)) cr)) b)) (bs := [px_vb ((vQ v a lv 0) 18) 2]) rfl rfl (by (try simp only [q1, q2, q3, q4]); exact (px_all (px_vbN (by omega) (by decide)) rfl)) ?_
    simp only [q1, q2, q3, q4]
    refine XG.br eX9_night_20 (P := (nI cr) ≤ (nI cr)) (r := []) rfl (tgt := 94) (by decide) (fun h20 => ?_) (fun h20 => ?_)
    · skip
      have g20 : cr ≤ cr := (nI_leI (a := cr) (b := cr) (by omega) (by omega)).mp h20
      refine XG.blk tX9_night_ok 53 1 (pc' := 95) (pl' := [some (.ref 0), some (.int (nI cr))]) (st' := [(.ref 0)]) (W1 := (mW (vQ v a lv 0) (va_up (aQ a) 55 (itN niF (nbF (a 25) lv sl (a 54)) cr)) b)) (bs := []) rfl rfl rfl ?_
      refine XG.callV0 eX9_night_95 kl_X9_412 (con_keeps (d - 1) (vQ v a lv 0) (va_up (aQ a) 55 (itN niF (nbF (a 25) lv sl (a 54)) cr)) b u hu hu2 (by omega)) (px_fitS (by omega)) rfl rfl rfl (Nat.le_of_ble_eq_true rfl) (fun r9 W9 hp9 hl9 => ?_)
      obtain ⟨rfl, rfl⟩ := hp9
      have q5 : (nI 29).toNatClampNeg = 29 := nI_clamp (by omega)
      refine XG.blk tX9_night_ok 55 4 (pc' := 105) (pl' := [some (.ref 0), some (.int (nI cr))]) (st' := [(.int (((va_up (aQ a) 55 (itN niF (nbF (a 25) lv sl (a 54)) cr)) 55) (nI 29).toNatClampNeg))]) (W1 := (mW (va_up (vQ v a lv 0) 61 (nI (kU u + 1))) (va_up (va_up (va_up (aQ a) 55 (itN niF (nbF (a 25) lv sl (a 54)) cr)) 62 (kH ((va_up (aQ a) 55 (itN niF (nbF (a 25) lv sl (a 54)) cr)) 62) u ((va_up (aQ a) 55 (itN niF (nbF (a 25) lv sl (a 54)) cr)) 54))) 54 ((va_up (aQ a) 55 (itN niF (nbF (a 25) lv sl (a 54)) cr)) 55)) b)) (bs := [px_vb (nI 29) 32]) rfl rfl (by (try simp only [q5]); exact (px_all (px_vbN (by omega) (by decide)) rfl)) ?_
      simp only [q5]
      refine XS.iret eX9_night_105 rfl rfl ?_
      exact ⟨_, _, rfl, Nw.of (Qs.row (Qs.c rfl rfl)) rfl rfl, rfl⟩
    · exfalso
      have g20 : ¬ cr ≤ cr := (fun z => h20 ((nI_leI (a := cr) (b := cr) (by omega) (by omega)).mpr z))
      omega
  · intro i hi ihi
    have q6 : ((vQ v a lv 0) 18) = (nI lv) := hlv
    have q7 : ((aQ a) 31) = (a 31) := rfl
    have q8 : (nI lv).toNatClampNeg = lv := nI_clamp (by omega)
    have q9 : ((a 31) lv) = (nI cr) := hcr
    refine XG.blk tX9_night_ok 6 6 (pc' := 20) (pl' := [some (.ref 0), some (.int (nI i))]) (st' := [(.int (((aQ a) 31) ((vQ v a lv 0) 18).toNatClampNeg)), (.int (nI i))]) (W1 := (mW (vQ v a lv 0) (va_up (aQ a) 55 (itN niF (nbF (a 25) lv sl (a 54)) i)) b)) (bs := [px_vb ((vQ v a lv 0) 18) 2]) rfl rfl (by (try simp only [q6, q7, q8, q9]); exact (px_all (px_vbN (by omega) (by decide)) rfl)) ?_
    simp only [q6, q7, q8, q9]
    refine XG.br eX9_night_20 (P := (nI cr) ≤ (nI i)) (r := []) rfl (tgt := 94) (by decide) (fun h20 => ?_) (fun h20 => ?_)
    · exfalso
      have g20 : cr ≤ i := (nI_leI (a := cr) (b := i) (by omega) (by omega)).mp h20
      omega
    · skip
      have g20 : ¬ cr ≤ i := (fun z => h20 ((nI_leI (a := cr) (b := i) (by omega) (by omega)).mpr z))
      have q10 : ((nI 18) + (nI i)) = (nI (18 + i)) := px_eadd rfl rfl
      have q11 : (nI (18 + i)).toNatClampNeg = (18 + i) := nI_clamp (by omega)
      refine XG.blk tX9_night_ok 13 7 (pc' := 34) (pl' := [some (.ref 0), some (.int (nI i))]) (st' := [(.int (nI 9)), (.int ((itN niF (nbF (a 25) lv sl (a 54)) i) ((nI 18) + (nI i)).toNatClampNeg))]) (W1 := (mW (vQ v a lv 0) (va_up (aQ a) 55 (itN niF (nbF (a 25) lv sl (a 54)) i)) b)) (bs := [px_vb ((nI 18) + (nI i)) 32]) rfl rfl (by (try simp only [q10, q11]); exact (px_all (px_vbN (by omega) (by decide)) rfl)) ?_
      simp only [q10, q11]
      refine XG.br eX9_night_34 (P := ((itN niF (nbF (a 25) lv sl (a 54)) i) (18 + i)) = (nI 9)) (r := []) rfl (tgt := 51) (by decide) (fun h34 => ?_) (fun h34 => ?_)
      · skip
        have q12 : ((nI 18) + (nI i)) = (nI (18 + i)) := px_eadd rfl rfl
        have q13 : (nI (18 + i)).toNatClampNeg = (18 + i) := nI_clamp (by omega)
        refine XG.blk tX9_night_ok 29 7 (pc' := 62) (pl' := [some (.ref 0), some (.int (nI i))]) (st' := []) (W1 := (mW (vQ v a lv 0) (va_up (aQ a) 55 (upd (itN niF (nbF (a 25) lv sl (a 54)) i) ((nI 18) + (nI i)).toNatClampNeg (-2))) b)) (bs := [px_vb ((nI 18) + (nI i)) 32]) rfl rfl (by (try simp only [q12, q13]); exact (px_all (px_vbN (by omega) (by decide)) rfl)) ?_
        simp only [q12, q13]
        refine XG.goto eX9_night_62 (tgt := 88) (by decide) ?_
        have q14 : ((nI i) + (nI 1)) = (nI (i + 1)) := px_eadd rfl rfl
        refine XG.blk tX9_night_ok 51 1 (pc' := 91) (pl' := [some (.ref 0), some (.int ((nI i) + (nI 1)))]) (st' := []) (W1 := (mW (vQ v a lv 0) (va_up (aQ a) 55 (upd (itN niF (nbF (a 25) lv sl (a 54)) i) (18 + i) (-2))) b)) (bs := []) rfl rfl rfl ?_
        simp only [q14]
        refine XG.goto eX9_night_91 (tgt := 10) (by decide) ?_
        rw [show (itN niF (nbF (a 25) lv sl (a 54)) (i + 1)) = (upd (itN niF (nbF (a 25) lv sl (a 54)) i) (18 + i) (-2)) from if_pos (Or.inl h34)] at ihi; exact ihi
      · skip
        have q15 : ((nI 18) + (nI i)) = (nI (18 + i)) := px_eadd rfl rfl
        have q16 : (nI (18 + i)).toNatClampNeg = (18 + i) := nI_clamp (by omega)
        refine XG.blk tX9_night_ok 21 7 (pc' := 48) (pl' := [some (.ref 0), some (.int (nI i))]) (st' := [(.int (-3)), (.int ((itN niF (nbF (a 25) lv sl (a 54)) i) ((nI 18) + (nI i)).toNatClampNeg))]) (W1 := (mW (vQ v a lv 0) (va_up (aQ a) 55 (itN niF (nbF (a 25) lv sl (a 54)) i)) b)) (bs := [px_vb ((nI 18) + (nI i)) 32]) rfl rfl (by (try simp only [q15, q16]); exact (px_all (px_vbN (by omega) (by decide)) rfl)) ?_
        simp only [q15, q16]
        refine XG.br eX9_night_48 (P := ¬ ((itN niF (nbF (a 25) lv sl (a 54)) i) (18 + i)) = (-3)) (r := []) rfl (tgt := 65) (by decide) (fun h48 => ?_) (fun h48 => ?_)
        · skip
          have q17 : ((nI 18) + (nI i)) = (nI (18 + i)) := px_eadd rfl rfl
          have q18 : (nI (18 + i)).toNatClampNeg = (18 + i) := nI_clamp (by omega)
          refine XG.blk tX9_night_ok 37 6 (pc' := 74) (pl' := [some (.ref 0), some (.int (nI i))]) (st' := [(.int ((itN niF (nbF (a 25) lv sl (a 54)) i) ((nI 18) + (nI i)).toNatClampNeg))]) (W1 := (mW (vQ v a lv 0) (va_up (aQ a) 55 (itN niF (nbF (a 25) lv sl (a 54)) i)) b)) (bs := [px_vb ((nI 18) + (nI i)) 32]) rfl rfl (by (try simp only [q17, q18]); exact (px_all (px_vbN (by omega) (by decide)) rfl)) ?_
          simp only [q17, q18]
          refine XG.br eX9_night_74 (P := ((itN niF (nbF (a 25) lv sl (a 54)) i) (18 + i)) < 0) (r := []) rfl (tgt := 88) (by decide) (fun h74 => ?_) (fun h74 => ?_)
          · skip
            have q19 : ((nI i) + (nI 1)) = (nI (i + 1)) := px_eadd rfl rfl
            refine XG.blk tX9_night_ok 51 1 (pc' := 91) (pl' := [some (.ref 0), some (.int ((nI i) + (nI 1)))]) (st' := []) (W1 := (mW (vQ v a lv 0) (va_up (aQ a) 55 (itN niF (nbF (a 25) lv sl (a 54)) i)) b)) (bs := []) rfl rfl rfl ?_
            simp only [q19]
            refine XG.goto eX9_night_91 (tgt := 10) (by decide) ?_
            rw [show (itN niF (nbF (a 25) lv sl (a 54)) (i + 1)) = (itN niF (nbF (a 25) lv sl (a 54)) i) from (if_neg (fun hc => hc.elim h34 h48)).trans (if_pos h74)] at ihi; exact ihi
          · skip
            have q20 : ((nI 18) + (nI i)) = (nI (18 + i)) := px_eadd rfl rfl
            have q21 : (nI (18 + i)).toNatClampNeg = (18 + i) := nI_clamp (by omega)
            have q22 : ((nI i) + (nI 1)) = (nI (i + 1)) := px_eadd rfl rfl
            refine XG.blk tX9_night_ok 44 8 (pc' := 91) (pl' := [some (.ref 0), some (.int ((nI i) + (nI 1)))]) (st' := []) (W1 := (mW (vQ v a lv 0) (va_up (aQ a) 55 (upd (itN niF (nbF (a 25) lv sl (a 54)) i) ((nI 18) + (nI i)).toNatClampNeg (nI 10))) b)) (bs := [px_vb ((nI 18) + (nI i)) 32]) rfl rfl (by (try simp only [q20, q21, q22]); exact (px_all (px_vbN (by omega) (by decide)) rfl)) ?_
            simp only [q20, q21, q22]
            refine XG.goto eX9_night_91 (tgt := 10) (by decide) ?_
            rw [show (itN niF (nbF (a 25) lv sl (a 54)) (i + 1)) = (upd (itN niF (nbF (a 25) lv sl (a 54)) i) (18 + i) (nI 10)) from (if_neg (fun hc => hc.elim h34 h48)).trans (if_neg h74)] at ihi; exact ihi
        · skip
          have h48 := Decidable.not_not.mp h48
          have q23 : ((nI 18) + (nI i)) = (nI (18 + i)) := px_eadd rfl rfl
          have q24 : (nI (18 + i)).toNatClampNeg = (18 + i) := nI_clamp (by omega)
          refine XG.blk tX9_night_ok 29 7 (pc' := 62) (pl' := [some (.ref 0), some (.int (nI i))]) (st' := []) (W1 := (mW (vQ v a lv 0) (va_up (aQ a) 55 (upd (itN niF (nbF (a 25) lv sl (a 54)) i) ((nI 18) + (nI i)).toNatClampNeg (-2))) b)) (bs := [px_vb ((nI 18) + (nI i)) 32]) rfl rfl (by (try simp only [q23, q24]); exact (px_all (px_vbN (by omega) (by decide)) rfl)) ?_
          simp only [q23, q24]
          refine XG.goto eX9_night_62 (tgt := 88) (by decide) ?_
          have q25 : ((nI i) + (nI 1)) = (nI (i + 1)) := px_eadd rfl rfl
          refine XG.blk tX9_night_ok 51 1 (pc' := 91) (pl' := [some (.ref 0), some (.int ((nI i) + (nI 1)))]) (st' := []) (W1 := (mW (vQ v a lv 0) (va_up (aQ a) 55 (upd (itN niF (nbF (a 25) lv sl (a 54)) i) (18 + i) (-2))) b)) (bs := []) rfl rfl rfl ?_
          simp only [q25]
          refine XG.goto eX9_night_91 (tgt := 10) (by decide) ?_
          rw [show (itN niF (nbF (a 25) lv sl (a 54)) (i + 1)) = (upd (itN niF (nbF (a 25) lv sl (a 54)) i) (18 + i) (-2)) from if_pos (Or.inr h48)] at ihi; exact ihi
set_option maxHeartbeats 400000 in
theorem con_undo (d : Nat) (v : Nat → Int32) (a : Nat → Nat → Int32) (b : Nat → Nat → Int64) (u : Nat) (hu : v 61 = nI u) (hu2 : u ≤ 40) : Con mX9_undo d [.ref 0] (mW v a b) (fun r W' => (u = 0 ∧ W' = mW v a b ∧ r = some (.int 0)) ∨ (1 ≤ u ∧ W' = mW (va_up v 61 (nI (u - 1))) (va_up a 54 (fun k => a 62 (32 * (u - 1) + k))) b ∧ r = some (.int 1))) := by
  refine Con.of (by decide) (Nat.le_of_ble_eq_true rfl) ?_
  rcases Nat.eq_zero_or_pos u with h0 | h0
  · subst h0
    have q1 : (v 61) = (nI 0) := hu
    refine XG.blk tX9_undo_ok 0 2 (pc' := 4) (pl' := [some (.ref 0), none]) (st' := [(.int (v 61))]) (W1 := (mW v a b)) (bs := []) rfl rfl rfl ?_
    simp only [q1]
    refine XG.br eX9_undo_4 (P := ¬ (nI 0) = 0) (r := []) rfl (tgt := 9) (by decide) (fun h4 => ?_) (fun h4 => ?_)
    · exfalso
      have g4 : ¬ 0 = 0 := (fun z => h4 ((nI_eq (a := 0) (b := 0) (by omega) (by omega)).mpr z))
      omega
    · skip
      have h4 := Decidable.not_not.mp h4
      have g4 : 0 = 0 := (nI_eq (a := 0) (b := 0) (by omega) (by omega)).mp h4
      refine XG.blk tX9_undo_ok 3 1 (pc' := 8) (pl' := [some (.ref 0), none]) (st' := [(.int (nI 0))]) (W1 := (mW v a b)) (bs := []) rfl rfl rfl ?_
      refine XS.iret eX9_undo_8 rfl (by decide) ?_
      first | exact Or.inl ⟨rfl, rfl, rfl⟩ | exact Or.inl ⟨trivial, rfl, rfl⟩
  · skip
    have q1 : (v 61) = (nI u) := hu
    refine XG.blk tX9_undo_ok 0 2 (pc' := 4) (pl' := [some (.ref 0), none]) (st' := [(.int (v 61))]) (W1 := (mW v a b)) (bs := []) rfl rfl rfl ?_
    simp only [q1]
    refine XG.br eX9_undo_4 (P := ¬ (nI u) = 0) (r := []) rfl (tgt := 9) (by decide) (fun h4 => ?_) (fun h4 => ?_)
    · skip
      have g4 : ¬ u = 0 := (fun z => h4 ((nI_eq (a := u) (b := 0) (by omega) (by omega)).mpr z))
      have q2 : (v 61) = (nI u) := hu
      have q3 : ((nI u) - (nI 1)) = (nI (u - 1)) := px_esub rfl rfl (by omega)
      refine XG.blk tX9_undo_ok 5 8 (pc' := 21) (pl' := [some (.ref 0), some (.int (nI 0))]) (st' := []) (W1 := (mW (va_up v 61 ((v 61) - (nI 1))) a b)) (bs := []) rfl rfl rfl ?_
      simp only [q2, q3]
      rw [show mW (va_up v 61 (nI (u - 1))) a b = mW (va_up v 61 (nI (u - 1))) (va_up a 54 (cpF (fun k => a 62 (32 * (u - 1) + k)) (a 54) 0)) b by rw [cpF_0, va_up_id]]
      refine px_for 32 (fun i => XG mX9_undo _ 0 0 21 [some (.ref 0), some (.int (nI i))] [] (mW (va_up v 61 (nI (u - 1))) (va_up a 54 (cpF (fun k => a 62 (32 * (u - 1) + k)) (a 54) i)) b)) ?_ ?_ 0 (by omega)
      · skip
        refine XG.blk tX9_undo_ok 13 2 (pc' := 24) (pl' := [some (.ref 0), some (.int (nI 32))]) (st' := [(.int (nI 32)), (.int (nI 32))]) (W1 := (mW (va_up v 61 (nI (u - 1))) (va_up a 54 (cpF (fun k => a 62 (32 * (u - 1) + k)) (a 54) 32)) b)) (bs := []) rfl rfl rfl ?_
        refine XG.br eX9_undo_24 (P := (nI 32) ≤ (nI 32)) (r := []) rfl (tgt := 53) (by decide) (fun h24 => ?_) (fun h24 => ?_)
        · skip
          have g24 : 32 ≤ 32 := (nI_leI (a := 32) (b := 32) (by omega) (by omega)).mp h24
          refine XG.blk tX9_undo_ok 31 1 (pc' := 54) (pl' := [some (.ref 0), some (.int (nI 32))]) (st' := [(.int (nI 1))]) (W1 := (mW (va_up v 61 (nI (u - 1))) (va_up a 54 (cpF (fun k => a 62 (32 * (u - 1) + k)) (a 54) 32)) b)) (bs := []) rfl rfl rfl ?_
          refine XG.ext1 37 rfl (g := fun k => a 62 (32 * (u - 1) + k)) (fun j hj => if_pos hj) ?_
          refine XS.iret eX9_undo_54 rfl (by decide) ?_
          exact Or.inr ⟨h0, rfl, rfl⟩
        · exfalso
          have g24 : ¬ 32 ≤ 32 := (fun z => h24 ((nI_leI (a := 32) (b := 32) (by omega) (by omega)).mpr z))
          omega
      · intro i hi ihi
        refine XG.blk tX9_undo_ok 13 2 (pc' := 24) (pl' := [some (.ref 0), some (.int (nI i))]) (st' := [(.int (nI 32)), (.int (nI i))]) (W1 := (mW (va_up v 61 (nI (u - 1))) (va_up a 54 (cpF (fun k => a 62 (32 * (u - 1) + k)) (a 54) i)) b)) (bs := []) rfl rfl rfl ?_
        refine XG.br eX9_undo_24 (P := (nI 32) ≤ (nI i)) (r := []) rfl (tgt := 53) (by decide) (fun h24 => ?_) (fun h24 => ?_)
        · exfalso
          have g24 : 32 ≤ i := (nI_leI (a := 32) (b := i) (by omega) (by omega)).mp h24
          omega
        · skip
          have g24 : ¬ 32 ≤ i := (fun z => h24 ((nI_leI (a := 32) (b := i) (by omega) (by omega)).mpr z))
          have q4 : ((nI 32) * (nI (u - 1))) = (nI (32 * (u - 1))) := px_emul rfl rfl
          have q5 : ((nI (32 * (u - 1))) + (nI i)) = (nI ((32 * (u - 1)) + i)) := px_eadd rfl rfl
          have q6 : (nI ((32 * (u - 1)) + i)).toNatClampNeg = ((32 * (u - 1)) + i) := nI_clamp (by omega)
          have q7 : (nI i).toNatClampNeg = i := nI_clamp (by omega)
          have q8 : ((nI i) + (nI 1)) = (nI (i + 1)) := px_eadd rfl rfl
          refine XG.blk tX9_undo_ok 16 14 (pc' := 50) (pl' := [some (.ref 0), some (.int ((nI i) + (nI 1)))]) (st' := []) (W1 := (mW (va_up v 61 (nI (u - 1))) (va_up a 54 (upd (cpF (fun k => a 62 (32 * (u - 1) + k)) (a 54) i) (nI i).toNatClampNeg ((a 62) (((nI 32) * (nI (u - 1))) + (nI i)).toNatClampNeg))) b)) (bs := [px_vb (((nI 32) * (nI (u - 1))) + (nI i)) 1280, px_vb (nI i) 32]) rfl rfl (by (try simp only [q4, q5, q6, q7, q8]); exact (px_all (px_vbN (by omega) (by decide)) (px_all (px_vbN (by omega) (by decide)) rfl))) ?_
          simp only [q4, q5, q6, q7, q8]
          refine XG.goto eX9_undo_50 (tgt := 21) (by decide) ?_
          rw [show upd (cpF (fun k => a 62 (32 * (u - 1) + k)) (a 54) i) i (a 62 (32 * (u - 1) + i)) = (cpF (fun k => a 62 (32 * (u - 1) + k)) (a 54) (i + 1)) from cpF_s _ _ i]; exact ihi
    · exfalso
      have h4 := Decidable.not_not.mp h4
      have g4 : u = 0 := (nI_eq (a := u) (b := 0) (by omega) (by omega)).mp h4
      omega
set_option maxHeartbeats 400000 in
theorem con_hold (d : Nat) (v : Nat → Int32) (a : Nat → Nat → Int32) (b : Nat → Nat → Int64) (p : Int32) (hd : 1 ≤ d) : Con mX9_hold d [.ref 0, .int p] (mW v a b) (fun r W' => (¬ px_vb p 3 = true ∧ W' = mW v a b ∧ r = some (.int 0)) ∨ (px_vb p 3 = true ∧ W' = mW v (va_up (va_up a 73 (upd (a 73) p.toNatClampNeg (nI 1))) 74 (plF (a 74) (a 54) (32 * p.toNatClampNeg) 32)) b ∧ r = some (.int 1))) := by
  refine Con.of (by decide) (Nat.le_of_ble_eq_true rfl) ?_
  by_cases hp : px_vb p 3 = true
  · obtain ⟨x, hx, rfl⟩ := px_vb_ex hp (by decide)
    simp only [nI_clamp (show x < 2 ^ 31 by omega)]
    have hin : nI 0 ≤ nI x ∧ nI x ≤ nI 2 := (px_inR (n := 3) (by decide) (by decide)).mpr hp
    refine XG.blk tX9_hold_ok 0 3 (pc' := 3) (pl' := [some (.ref 0), some (.int (nI x)), none]) (st' := [(.int (nI 2)), (.int (nI 0)), (.int (nI x))]) (W1 := (mW v a b)) (bs := []) rfl rfl rfl ?_
    refine XG.callSp (r := some (.int (if (nI 0) ≤ (nI x) ∧ (nI x) ≤ (nI 2) then 1 else 0))) eX9_hold_3 kl_X9_331 (con_in (d - 1) (nI x) (nI 0) (nI 2)) (px_fitS (by omega)) rfl rfl rfl rfl (Nat.le_of_ble_eq_true rfl) ?_
    refine XG.br eX9_hold_6 (P := ¬ (if (nI 0) ≤ (nI x) ∧ (nI x) ≤ (nI 2) then 1 else 0) = 0) (r := []) rfl (tgt := 11) (by decide) (fun h6 => ?_) (fun h6 => ?_)
    · skip
      have q1 : (nI x).toNatClampNeg = x := nI_clamp (by omega)
      have q2 : (vp_nar .boolean (nI 1)) = (nI 1) := by decide
      refine XG.blk tX9_hold_ok 7 7 (pc' := 20) (pl' := [some (.ref 0), some (.int (nI x)), some (.int (nI 0))]) (st' := []) (W1 := (mW v (va_up a 73 (upd (a 73) (nI x).toNatClampNeg (vp_nar .boolean (nI 1)))) b)) (bs := [px_vb (nI x) 3]) rfl rfl (by (try simp only [q1, q2]); exact (px_all (px_vbN (by omega) (by decide)) rfl)) ?_
      simp only [q1, q2]
      rw [show mW v (va_up a 73 (upd (a 73) x (nI 1))) b = mW v (va_up (va_up a 73 (upd (a 73) x (nI 1))) 74 (plF (a 74) (a 54) (32 * x) 0)) b by rw [plF_0]; exact congrArg (fun z => mW v z b) (va_up_id (va_up a 73 (upd (a 73) x (nI 1))) 74).symm]
      refine px_for 32 (fun i => XG mX9_hold _ 0 0 20 [some (.ref 0), some (.int (nI x)), some (.int (nI i))] [] (mW v (va_up (va_up a 73 (upd (a 73) x (nI 1))) 74 (plF (a 74) (a 54) (32 * x) i)) b)) ?_ ?_ 0 (by omega)
      · skip
        refine XG.blk tX9_hold_ok 14 2 (pc' := 23) (pl' := [some (.ref 0), some (.int (nI x)), some (.int (nI 32))]) (st' := [(.int (nI 32)), (.int (nI 32))]) (W1 := (mW v (va_up (va_up a 73 (upd (a 73) x (nI 1))) 74 (plF (a 74) (a 54) (32 * x) 32)) b)) (bs := []) rfl rfl rfl ?_
        refine XG.br eX9_hold_23 (P := (nI 32) ≤ (nI 32)) (r := []) rfl (tgt := 49) (by decide) (fun h23 => ?_) (fun h23 => ?_)
        · skip
          have g23 : 32 ≤ 32 := (nI_leI (a := 32) (b := 32) (by omega) (by omega)).mp h23
          refine XG.blk tX9_hold_ok 31 1 (pc' := 50) (pl' := [some (.ref 0), some (.int (nI x)), some (.int (nI 32))]) (st' := [(.int (nI 1))]) (W1 := (mW v (va_up (va_up a 73 (upd (a 73) x (nI 1))) 74 (plF (a 74) (a 54) (32 * x) 32)) b)) (bs := []) rfl rfl rfl ?_
          refine XS.iret eX9_hold_50 rfl (by decide) ?_
          exact Or.inr ⟨hp, rfl, rfl⟩
        · exfalso
          have g23 : ¬ 32 ≤ 32 := (fun z => h23 ((nI_leI (a := 32) (b := 32) (by omega) (by omega)).mpr z))
          omega
      · intro i hi ihi
        refine XG.blk tX9_hold_ok 14 2 (pc' := 23) (pl' := [some (.ref 0), some (.int (nI x)), some (.int (nI i))]) (st' := [(.int (nI 32)), (.int (nI i))]) (W1 := (mW v (va_up (va_up a 73 (upd (a 73) x (nI 1))) 74 (plF (a 74) (a 54) (32 * x) i)) b)) (bs := []) rfl rfl rfl ?_
        refine XG.br eX9_hold_23 (P := (nI 32) ≤ (nI i)) (r := []) rfl (tgt := 49) (by decide) (fun h23 => ?_) (fun h23 => ?_)
        · exfalso
          have g23 : 32 ≤ i := (nI_leI (a := 32) (b := i) (by omega) (by omega)).mp h23
          omega
        · skip
          have g23 : ¬ 32 ≤ i := (fun z => h23 ((nI_leI (a := 32) (b := i) (by omega) (by omega)).mpr z))
          have q3 : ((nI 32) * (nI x)) = (nI (32 * x)) := px_emul rfl rfl
          have q4 : ((nI (32 * x)) + (nI i)) = (nI ((32 * x) + i)) := px_eadd rfl rfl
          have q5 : (nI i).toNatClampNeg = i := nI_clamp (by omega)
          have q6 : (nI ((32 * x) + i)).toNatClampNeg = ((32 * x) + i) := nI_clamp (by omega)
          have q7 : ((nI i) + (nI 1)) = (nI (i + 1)) := px_eadd rfl rfl
          refine XG.blk tX9_hold_ok 17 13 (pc' := 46) (pl' := [some (.ref 0), some (.int (nI x)), some (.int ((nI i) + (nI 1)))]) (st' := []) (W1 := (mW v (va_up (va_up a 73 (upd (a 73) x (nI 1))) 74 (upd (plF (a 74) (a 54) (32 * x) i) (((nI 32) * (nI x)) + (nI i)).toNatClampNeg ((a 54) (nI i).toNatClampNeg))) b)) (bs := [px_vb (nI i) 32, px_vb (((nI 32) * (nI x)) + (nI i)) 96]) rfl rfl (by (try simp only [q3, q4, q5, q6, q7]); exact (px_all (px_vbN (by omega) (by decide)) (px_all (px_vbN (by omega) (by decide)) rfl))) ?_
          simp only [q3, q4, q5, q6, q7]
          refine XG.goto eX9_hold_46 (tgt := 20) (by decide) ?_
          rw [plF_s]; exact ihi
    · exfalso
      have h6 := Decidable.not_not.mp h6
      exact (one_ne.mp h6) hin
  · have hin : ¬ (nI 0 ≤ p ∧ p ≤ nI 2) := fun z => hp ((px_inR (n := 3) (by decide) (by decide)).mp z)
    refine XG.blk tX9_hold_ok 0 3 (pc' := 3) (pl' := [some (.ref 0), some (.int p), none]) (st' := [(.int (nI 2)), (.int (nI 0)), (.int p)]) (W1 := (mW v a b)) (bs := []) rfl rfl rfl ?_
    refine XG.callSp (r := some (.int (if (nI 0) ≤ p ∧ p ≤ (nI 2) then 1 else 0))) eX9_hold_3 kl_X9_331 (con_in (d - 1) p (nI 0) (nI 2)) (px_fitS (by omega)) rfl rfl rfl rfl (Nat.le_of_ble_eq_true rfl) ?_
    refine XG.br eX9_hold_6 (P := ¬ (if (nI 0) ≤ p ∧ p ≤ (nI 2) then 1 else 0) = 0) (r := []) rfl (tgt := 11) (by decide) (fun h6 => ?_) (fun h6 => ?_)
    · exfalso
      exact h6 (one_ne.mpr hin)
    · skip
      have h6 := Decidable.not_not.mp h6
      refine XG.blk tX9_hold_ok 5 1 (pc' := 10) (pl' := [some (.ref 0), some (.int p), none]) (st' := [(.int (nI 0))]) (W1 := (mW v a b)) (bs := []) rfl rfl rfl ?_
      refine XS.iret eX9_hold_10 rfl (by decide) ?_
      exact Or.inl ⟨hp, rfl, rfl⟩
set_option maxHeartbeats 400000 in
theorem con_restore (d : Nat) (v : Nat → Int32) (a : Nat → Nat → Int32) (b : Nat → Nat → Int64) (p : Int32) (hd : 1 ≤ d) : Con mX9_restore d [.ref 0, .int p] (mW v a b) (fun r W' => (¬ (px_vb p 3 = true ∧ ¬ a 73 p.toNatClampNeg = 0) ∧ W' = mW v a b ∧ r = some (.int 0)) ∨ ((px_vb p 3 = true ∧ ¬ a 73 p.toNatClampNeg = 0) ∧ W' = mW (va_up v 61 (nI 0)) (va_up a 54 (fun k => a 74 (32 * p.toNatClampNeg + k))) b ∧ r = some (.int 1))) := by
  refine Con.of (by decide) (Nat.le_of_ble_eq_true rfl) ?_
  by_cases hp : px_vb p 3 = true
  · obtain ⟨x, hx, rfl⟩ := px_vb_ex hp (by decide)
    simp only [nI_clamp (show x < 2 ^ 31 by omega)]
    have hin : nI 0 ≤ nI x ∧ nI x ≤ nI 2 := (px_inR (n := 3) (by decide) (by decide)).mpr hp
    refine XG.blk tX9_restore_ok 0 3 (pc' := 3) (pl' := [some (.ref 0), some (.int (nI x)), none]) (st' := [(.int (nI 2)), (.int (nI 0)), (.int (nI x))]) (W1 := (mW v a b)) (bs := []) rfl rfl rfl ?_
    refine XG.callSp (r := some (.int (if (nI 0) ≤ (nI x) ∧ (nI x) ≤ (nI 2) then 1 else 0))) eX9_restore_3 kl_X9_331 (con_in (d - 1) (nI x) (nI 0) (nI 2)) (px_fitS (by omega)) rfl rfl rfl rfl (Nat.le_of_ble_eq_true rfl) ?_
    refine XG.br eX9_restore_6 (P := (if (nI 0) ≤ (nI x) ∧ (nI x) ≤ (nI 2) then 1 else 0) = 0) (r := []) rfl (tgt := 18) (by decide) (fun h6 => ?_) (fun h6 => ?_)
    · exfalso
      exact (one_ne.mp h6) hin
    · skip
      have q1 : (nI x).toNatClampNeg = x := nI_clamp (by omega)
      refine XG.blk tX9_restore_ok 5 4 (pc' := 15) (pl' := [some (.ref 0), some (.int (nI x)), none]) (st' := [(.int ((a 73) (nI x).toNatClampNeg))]) (W1 := (mW v a b)) (bs := [px_vb (nI x) 3]) rfl rfl (by (try simp only [q1]); exact (px_all (px_vbN (by omega) (by decide)) rfl)) ?_
      simp only [q1]
      refine XG.br eX9_restore_15 (P := ¬ ((a 73) x) = 0) (r := []) rfl (tgt := 20) (by decide) (fun h15 => ?_) (fun h15 => ?_)
      · skip
        refine XG.blk tX9_restore_ok 12 2 (pc' := 22) (pl' := [some (.ref 0), some (.int (nI x)), some (.int (nI 0))]) (st' := []) (W1 := (mW v a b)) (bs := []) rfl rfl rfl ?_
        rw [show mW v a b = mW v (va_up a 54 (cpF (fun k => a 74 (32 * x + k)) (a 54) 0)) b by rw [cpF_0, va_up_id]]
        refine px_for 32 (fun i => XG mX9_restore _ 0 0 22 [some (.ref 0), some (.int (nI x)), some (.int (nI i))] [] (mW v (va_up a 54 (cpF (fun k => a 74 (32 * x + k)) (a 54) i)) b)) ?_ ?_ 0 (by omega)
        · skip
          refine XG.blk tX9_restore_ok 14 2 (pc' := 25) (pl' := [some (.ref 0), some (.int (nI x)), some (.int (nI 32))]) (st' := [(.int (nI 32)), (.int (nI 32))]) (W1 := (mW v (va_up a 54 (cpF (fun k => a 74 (32 * x + k)) (a 54) 32)) b)) (bs := []) rfl rfl rfl ?_
          refine XG.br eX9_restore_25 (P := (nI 32) ≤ (nI 32)) (r := []) rfl (tgt := 51) (by decide) (fun h25 => ?_) (fun h25 => ?_)
          · skip
            have g25 : 32 ≤ 32 := (nI_leI (a := 32) (b := 32) (by omega) (by omega)).mp h25
            refine XG.blk tX9_restore_ok 31 4 (pc' := 57) (pl' := [some (.ref 0), some (.int (nI x)), some (.int (nI 32))]) (st' := [(.int (nI 1))]) (W1 := (mW (va_up v 61 (nI 0)) (va_up a 54 (cpF (fun k => a 74 (32 * x + k)) (a 54) 32)) b)) (bs := []) rfl rfl rfl ?_
            refine XG.ext1 37 rfl (g := fun k => a 74 (32 * x + k)) (fun j hj => if_pos hj) ?_
            refine XS.iret eX9_restore_57 rfl (by decide) ?_
            exact Or.inr ⟨⟨hp, h15⟩, rfl, rfl⟩
          · exfalso
            have g25 : ¬ 32 ≤ 32 := (fun z => h25 ((nI_leI (a := 32) (b := 32) (by omega) (by omega)).mpr z))
            omega
        · intro i hi ihi
          refine XG.blk tX9_restore_ok 14 2 (pc' := 25) (pl' := [some (.ref 0), some (.int (nI x)), some (.int (nI i))]) (st' := [(.int (nI 32)), (.int (nI i))]) (W1 := (mW v (va_up a 54 (cpF (fun k => a 74 (32 * x + k)) (a 54) i)) b)) (bs := []) rfl rfl rfl ?_
          refine XG.br eX9_restore_25 (P := (nI 32) ≤ (nI i)) (r := []) rfl (tgt := 51) (by decide) (fun h25 => ?_) (fun h25 => ?_)
          · exfalso
            have g25 : 32 ≤ i := (nI_leI (a := 32) (b := i) (by omega) (by omega)).mp h25
            omega
          · skip
            have g25 : ¬ 32 ≤ i := (fun z => h25 ((nI_leI (a := 32) (b := i) (by omega) (by omega)).mpr z))
            have q2 : ((nI 32) * (nI x)) = (nI (32 * x)) := px_emul rfl rfl
            have q3 : ((nI (32 * x)) + (nI i)) = (nI ((32 * x) + i)) := px_eadd rfl rfl
            have q4 : (nI ((32 * x) + i)).toNatClampNeg = ((32 * x) + i) := nI_clamp (by omega)
            have q5 : (nI i).toNatClampNeg = i := nI_clamp (by omega)
            have q6 : ((nI i) + (nI 1)) = (nI (i + 1)) := px_eadd rfl rfl
            refine XG.blk tX9_restore_ok 17 13 (pc' := 48) (pl' := [some (.ref 0), some (.int (nI x)), some (.int ((nI i) + (nI 1)))]) (st' := []) (W1 := (mW v (va_up a 54 (upd (cpF (fun k => a 74 (32 * x + k)) (a 54) i) (nI i).toNatClampNeg ((a 74) (((nI 32) * (nI x)) + (nI i)).toNatClampNeg))) b)) (bs := [px_vb (((nI 32) * (nI x)) + (nI i)) 96, px_vb (nI i) 32]) rfl rfl (by (try simp only [q2, q3, q4, q5, q6]); exact (px_all (px_vbN (by omega) (by decide)) (px_all (px_vbN (by omega) (by decide)) rfl))) ?_
            simp only [q2, q3, q4, q5, q6]
            refine XG.goto eX9_restore_48 (tgt := 22) (by decide) ?_
            rw [show upd (cpF (fun k => a 74 (32 * x + k)) (a 54) i) i (a 74 (32 * x + i)) = (cpF (fun k => a 74 (32 * x + k)) (a 54) (i + 1)) from cpF_s _ _ i]; exact ihi
      · skip
        have h15 := Decidable.not_not.mp h15
        refine XG.blk tX9_restore_ok 10 1 (pc' := 19) (pl' := [some (.ref 0), some (.int (nI x)), none]) (st' := [(.int (nI 0))]) (W1 := (mW v a b)) (bs := []) rfl rfl rfl ?_
        refine XS.iret eX9_restore_19 rfl (by decide) ?_
        exact Or.inl ⟨fun hc => hc.2 h15, rfl, rfl⟩
  · have hin : ¬ (nI 0 ≤ p ∧ p ≤ nI 2) := fun z => hp ((px_inR (n := 3) (by decide) (by decide)).mp z)
    refine XG.blk tX9_restore_ok 0 3 (pc' := 3) (pl' := [some (.ref 0), some (.int p), none]) (st' := [(.int (nI 2)), (.int (nI 0)), (.int p)]) (W1 := (mW v a b)) (bs := []) rfl rfl rfl ?_
    refine XG.callSp (r := some (.int (if (nI 0) ≤ p ∧ p ≤ (nI 2) then 1 else 0))) eX9_restore_3 kl_X9_331 (con_in (d - 1) p (nI 0) (nI 2)) (px_fitS (by omega)) rfl rfl rfl rfl (Nat.le_of_ble_eq_true rfl) ?_
    refine XG.br eX9_restore_6 (P := (if (nI 0) ≤ p ∧ p ≤ (nI 2) then 1 else 0) = 0) (r := []) rfl (tgt := 18) (by decide) (fun h6 => ?_) (fun h6 => ?_)
    · skip
      refine XG.blk tX9_restore_ok 10 1 (pc' := 19) (pl' := [some (.ref 0), some (.int p), none]) (st' := [(.int (nI 0))]) (W1 := (mW v a b)) (bs := []) rfl rfl rfl ?_
      refine XS.iret eX9_restore_19 rfl (by decide) ?_
      exact Or.inl ⟨fun hc => hp hc.1, rfl, rfl⟩
    · exfalso
      exact h6 (one_ne.mpr hin)
theorem con_forget (d : Nat) (v : Nat → Int32) (a : Nat → Nat → Int32) (b : Nat → Nat → Int64) : Con mX9_forget d [.ref 0] (mW v a b) (fun r W' => W' = mW (va_up v 69 (nI 0)) a b ∧ r = some (.int (v 69))) := by
  refine Con.of (by decide) (Nat.le_of_ble_eq_true rfl) ?_
  refine XG.blk tX9_forget_ok 0 7 (pc' := 11) (pl' := [some (.ref 0), some (.int (v 69))]) (st' := [(.int (v 69))]) (W1 := (mW (va_up v 69 (nI 0)) a b)) (bs := []) rfl rfl rfl ?_
  refine XS.iret eX9_forget_11 rfl rfl ?_
  exact ⟨rfl, rfl⟩
theorem con_place (d : Nat) (v : Nat → Int32) (a : Nat → Nat → Int32) (b : Nat → Nat → Int64) : Con mX9_place d [.ref 0] (mW v a b) (fun r W' => W' = mW v a b ∧ r = some (.int (v 17))) := by
  refine Con.of (by decide) (Nat.le_of_ble_eq_true rfl) ?_
  refine XG.blk tX9_place_ok 0 2 (pc' := 4) (pl' := [some (.ref 0)]) (st' := [(.int (v 17))]) (W1 := (mW v a b)) (bs := []) rfl rfl rfl ?_
  refine XS.iret eX9_place_4 rfl rfl ?_
  exact ⟨rfl, rfl⟩
theorem con_back (d : Nat) (v : Nat → Int32) (a : Nat → Nat → Int32) (b : Nat → Nat → Int64) (n : Int32) : Con mX9_back d [.ref 0, .int n] (mW v a b) (fun r W' => (¬ (0 ≤ n ∧ n ≤ v 2) ∧ W' = mW v a b ∧ r = some (.int (-1))) ∨ ((0 ≤ n ∧ n ≤ v 2) ∧ W' = mW (va_up v 2 (v 2 - n)) a b ∧ r = some (.int (v 2 - n)))) := by
  refine Con.of (by decide) (Nat.le_of_ble_eq_true rfl) ?_
  refine XG.blk tX9_back_ok 0 1 (pc' := 1) (pl' := [some (.ref 0), some (.int n)]) (st' := [(.int n)]) (W1 := (mW v a b)) (bs := []) rfl rfl rfl ?_
  refine XG.br eX9_back_1 (P := n < 0) (r := []) rfl (tgt := 12) (by decide) (fun h1 => ?_) (fun h1 => ?_)
  · skip
    refine XG.blk tX9_back_ok 6 1 (pc' := 13) (pl' := [some (.ref 0), some (.int n)]) (st' := [(.int (-1))]) (W1 := (mW v a b)) (bs := []) rfl rfl rfl ?_
    refine XS.iret eX9_back_13 rfl rfl ?_
    exact Or.inl ⟨fun hc => absurd h1 (Int32.not_lt.mpr hc.1), rfl, rfl⟩
  · skip
    refine XG.blk tX9_back_ok 2 3 (pc' := 9) (pl' := [some (.ref 0), some (.int n)]) (st' := [(.int (v 2)), (.int n)]) (W1 := (mW v a b)) (bs := []) rfl rfl rfl ?_
    refine XG.br eX9_back_9 (P := n ≤ (v 2)) (r := []) rfl (tgt := 14) (by decide) (fun h9 => ?_) (fun h9 => ?_)
    · skip
      refine XG.blk tX9_back_ok 8 8 (pc' := 28) (pl' := [some (.ref 0), some (.int n)]) (st' := [(.int ((v 2) - n))]) (W1 := (mW (va_up v 2 ((v 2) - n)) a b)) (bs := []) rfl rfl rfl ?_
      refine XS.iret eX9_back_28 rfl rfl ?_
      exact Or.inr ⟨⟨Int32.not_lt.mp h1, h9⟩, rfl, rfl⟩
    · skip
      refine XG.blk tX9_back_ok 6 1 (pc' := 13) (pl' := [some (.ref 0), some (.int n)]) (st' := [(.int (-1))]) (W1 := (mW v a b)) (bs := []) rfl rfl rfl ?_
      refine XS.iret eX9_back_13 rfl rfl ?_
      exact Or.inl ⟨fun hc => h9 hc.2, rfl, rfl⟩
set_option maxHeartbeats 400000 in
theorem con_tell (d : Nat) (v : Nat → Int32) (a : Nat → Nat → Int32) (b : Nat → Nat → Int64) (lv sp sl cr : Nat) (I : MI v a lv sp sl cr) (tn : Nat) (ht : v 69 = nI tn) (ht2 : tn ≤ 20) (p y : Int32) (hd : 2 ≤ d) : Con mX9_tell d [.ref 0, .int p, .int y] (mW v a b) (fun r W' => (¬ (¬ tn = 20 ∧ px_vb p sp = true ∧ (nI 0 ≤ y ∧ y ≤ nI 999)) ∧ W' = mW v a b ∧ r = some (.int (-1))) ∨ ((¬ tn = 20 ∧ px_vb p sp = true ∧ (nI 0 ≤ y ∧ y ≤ nI 999)) ∧ W' = mW (va_up v 69 (nI (tn + 1))) (va_up (va_up a 70 (upd (a 70) tn p)) 71 (upd (a 71) tn y)) b ∧ r = some (.int (nI tn)))) := by
  obtain ⟨hlv, hlv2, hsp, hsp1, hsp2, hsl, hsl2, hcr, hcr2⟩ := id I
  refine Con.of (by decide) (Nat.le_of_ble_eq_true rfl) ?_
  have q1 : (v 69) = (nI tn) := ht
  refine XG.blk tX9_tell_ok 0 3 (pc' := 6) (pl' := [some (.ref 0), some (.int p), some (.int y)]) (st' := [(.int (nI 20)), (.int (v 69))]) (W1 := (mW v a b)) (bs := []) rfl rfl rfl ?_
  simp only [q1]
  refine XG.br eX9_tell_6 (P := (nI tn) = (nI 20)) (r := []) rfl (tgt := 28) (by decide) (fun h6 => ?_) (fun h6 => ?_)
  · skip
    have g6 : tn = 20 := (nI_eq (a := tn) (b := 20) (by omega) (by omega)).mp h6
    refine XG.blk tX9_tell_ok 13 1 (pc' := 29) (pl' := [some (.ref 0), some (.int p), some (.int y)]) (st' := [(.int (-1))]) (W1 := (mW v a b)) (bs := []) rfl rfl rfl ?_
    refine XS.iret eX9_tell_29 rfl rfl ?_
    exact Or.inl ⟨fun hc => hc.1 g6, rfl, rfl⟩
  · skip
    have g6 : ¬ tn = 20 := (fun z => h6 ((nI_eq (a := tn) (b := 20) (by omega) (by omega)).mpr z))
    refine XG.blk tX9_tell_ok 4 2 (pc' := 11) (pl' := [some (.ref 0), some (.int p), some (.int y)]) (st' := [(.int p), (.ref 0)]) (W1 := (mW v a b)) (bs := []) rfl rfl rfl ?_
    refine XG.callV0 eX9_tell_11 kl_X9_406 (con_isSpan (d - 1) v a b p lv sp sl cr I (by omega)) (px_fitS (by omega)) rfl rfl rfl (Nat.le_of_ble_eq_true rfl) (fun r9 W9 hp9 hl9 => ?_)
    obtain ⟨rfl, rfl⟩ := hp9
    refine XG.br eX9_tell_14 (P := (if px_vb p sp = true then 1 else 0) = 0) (r := []) rfl (tgt := 28) (by decide) (fun h14 => ?_) (fun h14 => ?_)
    · skip
      refine XG.blk tX9_tell_ok 13 1 (pc' := 29) (pl' := [some (.ref 0), some (.int p), some (.int y)]) (st' := [(.int (-1))]) (W1 := (mW v a b)) (bs := []) rfl rfl rfl ?_
      refine XS.iret eX9_tell_29 rfl rfl ?_
      exact Or.inl ⟨fun hc => (one_ne.mp h14) hc.2.1, rfl, rfl⟩
    · skip
      refine XG.blk tX9_tell_ok 8 3 (pc' := 22) (pl' := [some (.ref 0), some (.int p), some (.int y)]) (st' := [(.int (nI 999)), (.int (nI 0)), (.int y)]) (W1 := (mW v a b)) (bs := []) rfl rfl rfl ?_
      refine XG.callSp (r := some (.int (if (nI 0) ≤ y ∧ y ≤ (nI 999) then 1 else 0))) eX9_tell_22 kl_X9_331 (con_in (d - 1) y (nI 0) (nI 999)) (px_fitS (by omega)) rfl rfl rfl rfl (Nat.le_of_ble_eq_true rfl) ?_
      refine XG.br eX9_tell_25 (P := ¬ (if (nI 0) ≤ y ∧ y ≤ (nI 999) then 1 else 0) = 0) (r := []) rfl (tgt := 30) (by decide) (fun h25 => ?_) (fun h25 => ?_)
      · skip
        have q2 : (v 69) = (nI tn) := ht
        have q3 : (nI tn).toNatClampNeg = tn := nI_clamp (by omega)
        have q4 : ((nI tn) + (nI 1)) = (nI (tn + 1)) := px_eadd rfl rfl
        have q5 : ((nI (tn + 1)) - (nI 1)) = (nI ((tn + 1) - 1)) := px_esub rfl rfl (by omega)
        refine XG.blk tX9_tell_ok 15 22 (pc' := 66) (pl' := [some (.ref 0), some (.int p), some (.int y)]) (st' := [(.int (((v 69) + (nI 1)) - (nI 1)))]) (W1 := (mW (va_up v 69 ((v 69) + (nI 1))) (va_up (va_up a 70 (upd (a 70) (v 69).toNatClampNeg p)) 71 (upd (a 71) (v 69).toNatClampNeg y)) b)) (bs := [px_vb (v 69) 20, px_vb (v 69) 20]) rfl rfl (by (try simp only [q2, q3, q4, q5]); exact (px_all (px_vbN (by omega) (by decide)) (px_all (px_vbN (by omega) (by decide)) rfl))) ?_
        simp only [q2, q3, q4, q5]
        refine XS.iret eX9_tell_66 rfl rfl ?_
        exact Or.inr ⟨⟨g6, vb_of h14, Decidable.not_not.mp (fun z => h25 (one_ne.mpr z))⟩, rfl, by rw [show tn + 1 - 1 = tn by omega]⟩
      · skip
        have h25 := Decidable.not_not.mp h25
        refine XG.blk tX9_tell_ok 13 1 (pc' := 29) (pl' := [some (.ref 0), some (.int p), some (.int y)]) (st' := [(.int (-1))]) (W1 := (mW v a b)) (bs := []) rfl rfl rfl ?_
        refine XS.iret eX9_tell_29 rfl rfl ?_
        exact Or.inl ⟨fun hc => (one_ne.mp h25) hc.2.2, rfl, rfl⟩
