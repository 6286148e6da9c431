/-! the reference: start, tells, year -/
theorem pD41 {i : Nat} (h : i ≤ 40) : pD 41 i = nI (40 - i) := by
  unfold pD nI
  rw [show ((41 : Nat) : Int) - 1 - (i : Int) = ((40 - i : Nat) : Int) by omega]
  rfl
theorem pD41_s {i : Nat} (h : i ≤ 40) : nI (40 - i) + (-1) = pD 41 (i + 1) := by
  rw [← pD41 h]
  unfold pD
  rw [show (-1 : Int32) = Int32.ofInt (-1) from rfl, ← Int32.ofInt_add]
  congr 1
  omega
def qStart (v : Nat → Int32) (a : Nat → Nat → Int32) (lv sp sl cr x : Nat) : Int32 := if a 54 (18 + x) = -2 then ofF (findN (fun i => inT v a lv sp sl cr x (40 - i)) 41 0) (fun i => nI (40 - i)) (-2) else -2
set_option maxHeartbeats 400000 in
theorem con_start (d : Nat) (v : Nat → Int32) (a : Nat → Nat → Int32) (b : Nat → Nat → Int64) (lv sp sl cr : Nat) (I : MI v a lv sp sl cr) (hwf : wf3 a lv) (h dw : Nat) (hh : a 54 28 = nI h) (hh2 : h < 1000000) (hdw : a 35 lv = nI dw) (hdw2 : dw ≤ 99) (p : Int32) (hd : 10 ≤ d) : Con mX9_start d [.ref 0, .int p] (mW v a b) (fun r W' => ∃ v' a', W' = mW v' a' b ∧ Qs v v' a a' ∧ r = some (.int (ansB p cr (fun x => qStart v a lv sp sl cr x) (-1)))) := by
  obtain ⟨hlv, hlv2, hsp, hsp1, hsp2, hsl, hsl2, hcr, hcr2⟩ := id I
  refine Con.of (by decide) (Nat.le_of_ble_eq_true rfl) ?_
  by_cases hp : px_vb p cr = true
  · obtain ⟨x, hx, rfl⟩ := px_vb_ex hp (by omega)
    have eA : ansB (nI x) cr (fun x => qStart v a lv sp sl cr x) (-1) = (fun x => qStart v a lv sp sl cr x) x := by unfold ansB; rw [if_pos hp, nI_clamp (by omega)]
    simp only [eA]
    refine XG.blk tX9_start_ok 0 2 (pc' := 2) (pl' := [some (.ref 0), some (.int (nI x)), none]) (st' := [(.int (nI x)), (.ref 0)]) (W1 := (mW v a b)) (bs := []) rfl rfl rfl ?_
    refine XG.callV0 eX9_start_2 kl_X9_403 (con_isCrosser (d - 1) v a b (nI x) lv sp sl cr I (by omega)) (px_fitS (by omega)) rfl rfl rfl (Nat.le_of_ble_eq_true rfl) (fun r9 W9 hp9 hl9 => ?_)
    obtain ⟨rfl, rfl⟩ := hp9
    refine XG.br eX9_start_5 (P := ¬ (if px_vb (nI x) cr = true then 1 else 0) = 0) (r := []) rfl (tgt := 10) (by decide) (fun h5 => ?_) (fun h5 => ?_)
    · skip
      have q1 : ((nI 18) + (nI x)) = (nI (18 + x)) := px_eadd rfl rfl
      have q2 : (nI (18 + x)).toNatClampNeg = (18 + x) := nI_clamp (by omega)
      refine XG.blk tX9_start_ok 6 7 (pc' := 21) (pl' := [some (.ref 0), some (.int (nI x)), none]) (st' := [(.int (-2)), (.int ((a 54) ((nI 18) + (nI x)).toNatClampNeg))]) (W1 := (mW v a b)) (bs := [px_vb ((nI 18) + (nI x)) 32]) rfl rfl (by (try simp only [q1, q2]); exact (px_all (px_vbN (by omega) (by decide)) rfl)) ?_
      simp only [q1, q2]
      refine XG.br eX9_start_21 (P := ((a 54) (18 + x)) = (-2)) (r := []) rfl (tgt := 27) (by decide) (fun h21 => ?_) (fun h21 => ?_)
      · skip
        refine XG.blk tX9_start_ok 16 2 (pc' := 30) (pl' := [some (.ref 0), some (.int (nI x)), some (.int (nI 40))]) (st' := []) (W1 := (mW v a b)) (bs := []) rfl rfl rfl ?_
        obtain ⟨RS, hRS⟩ : ∃ z, z = findN (fun i => inT v a lv sp sl cr x (40 - i)) 41 0 := ⟨_, rfl⟩
        have eQ : qStart v a lv sp sl cr x = ofF RS (fun i => nI (40 - i)) (-2) := by unfold qStart; rw [if_pos h21, hRS]
        show XG _ _ _ _ 30 [some (.ref 0), some (.int (nI x)), some (.int (pD 41 0))] [] _
        refine px_for 41 (fun i => ∀ (v9 : Nat → Int32) (a9 : Nat → Nat → Int32) (hQ9 : Qs v v9 a a9) (hr : findN (fun i => inT v a lv sp sl cr x (40 - i)) (41 - i) i = RS), XG mX9_start _ 0 0 30 [some (.ref 0), some (.int (nI x)), some (.int (pD 41 i))] [] (mW v9 a9 b)) ?_ ?_ 0 (by omega) _ _ Qs.rf hRS.symm
        · intro v9 a9 hQ9 hr
          rw [Nat.sub_self] at hr
          rw [show pD 41 41 = -1 from by decide]
          refine XG.blk tX9_start_ok 18 1 (pc' := 31) (pl' := [some (.ref 0), some (.int (nI x)), some (.int (-1))]) (st' := [(.int (-1))]) (W1 := (mW v9 a9 b)) (bs := []) rfl rfl rfl ?_
          refine XG.br eX9_start_31 (P := (-1) < 0) (r := []) rfl (tgt := 51) (by decide) (fun h31 => ?_) (fun h31 => ?_)
          · skip
            refine XG.blk tX9_start_ok 29 1 (pc' := 53) (pl' := [some (.ref 0), some (.int (nI x)), some (.int (-1))]) (st' := [(.int (-2))]) (W1 := (mW v9 a9 b)) (bs := []) rfl rfl rfl ?_
            refine XS.iret eX9_start_53 rfl rfl ?_
            exact ⟨_, _, rfl, hQ9, by rw [eQ, ← hr] <;> rfl⟩
          · exfalso
            first | exact (one_ne.mp h5) hp | exact absurd (by decide) h31
        · intro i hi ihi v9 a9 hQ9 hr
          rw [pD41 (by omega)]
          rw [show 41 - i = (41 - (i + 1)) + 1 by omega] at hr
          simp only [findN] at hr
          refine XG.blk tX9_start_ok 18 1 (pc' := 31) (pl' := [some (.ref 0), some (.int (nI x)), some (.int (nI (40 - i)))]) (st' := [(.int (nI (40 - i)))]) (W1 := (mW v9 a9 b)) (bs := []) rfl rfl rfl ?_
          refine XG.br eX9_start_31 (P := (nI (40 - i)) < 0) (r := []) rfl (tgt := 51) (by decide) (fun h31 => ?_) (fun h31 => ?_)
          · exfalso
            have g31 : (40 - i) < 0 := (nI_ltI (a := (40 - i)) (b := 0) (by omega) (by omega)).mp h31
            omega
          · skip
            have g31 : ¬ (40 - i) < 0 := (fun z => h31 ((nI_ltI (a := (40 - i)) (b := 0) (by omega) (by omega)).mpr z))
            refine XG.blk tX9_start_ok 20 3 (pc' := 37) (pl' := [some (.ref 0), some (.int (nI x)), some (.int (nI (40 - i)))]) (st' := [(.int (nI (40 - i))), (.int (nI x)), (.ref 0)]) (W1 := (mW v9 a9 b)) (bs := []) rfl rfl rfl ?_
            refine XG.callV0 eX9_start_37 kl_X9_460 (con_isInTime (d - 1) v9 a9 b lv sp sl cr (hQ9.MI I) (hQ9.w3 hwf) h dw (by rw [hQ9.2 54 (by decide)]; exact hh) hh2 (by rw [hQ9.2 35 (by decide)]; exact hdw) hdw2 x (40 - i) hx (by omega) (by omega)) (px_fitS (by omega)) rfl rfl rfl (Nat.le_of_ble_eq_true rfl) (fun r9 W9 hp9 hl9 => ?_)
            obtain ⟨v21, a21, rfl, hQ21, rfl⟩ := hp9
            rw [inT_Q hQ9]
            replace hQ21 := hQ9.tr hQ21
            refine XG.br eX9_start_40 (P := (if inT v a lv sp sl cr x (40 - i) = true then 1 else 0) = 0) (r := []) rfl (tgt := 45) (by decide) (fun h40 => ?_) (fun h40 => ?_)
            · skip
              refine XG.blk tX9_start_ok 27 1 (pc' := 48) (pl' := [some (.ref 0), some (.int (nI x)), some (.int ((nI (40 - i)) + (-1)))]) (st' := []) (W1 := (mW v21 a21 b)) (bs := []) rfl rfl rfl ?_
              refine XG.goto eX9_start_48 (tgt := 30) (by decide) ?_
              rw [if_neg (show ¬ (fun i => inT v a lv sp sl cr x (40 - i)) i = true from one_ne.mp h40)] at hr
              rw [pD41_s (by omega)]
              exact ihi v21 a21 hQ21 hr
            · skip
              refine XG.blk tX9_start_ok 25 1 (pc' := 44) (pl' := [some (.ref 0), some (.int (nI x)), some (.int (nI (40 - i)))]) (st' := [(.int (nI (40 - i)))]) (W1 := (mW v21 a21 b)) (bs := []) rfl rfl rfl ?_
              refine XS.iret eX9_start_44 rfl rfl ?_
              exact ⟨_, _, rfl, hQ21, by rw [if_pos (show (fun i => inT v a lv sp sl cr x (40 - i)) i = true from Decidable.not_not.mp (fun z => h40 (one_ne.mpr z)))] at hr; rw [eQ, ← hr] <;> rfl⟩
      · skip
        refine XG.blk tX9_start_ok 14 1 (pc' := 26) (pl' := [some (.ref 0), some (.int (nI x)), none]) (st' := [(.int (-2))]) (W1 := (mW v a b)) (bs := []) rfl rfl rfl ?_
        refine XS.iret eX9_start_26 rfl rfl ?_
        exact ⟨_, _, rfl, Qs.rf, by unfold qStart; rw [if_neg h21]⟩
    · exfalso
      have h5 := Decidable.not_not.mp h5
      first | exact (one_ne.mp h5) hp | exact absurd (by decide) h31
  · have eA : ansB p cr (fun x => qStart v a lv sp sl cr x) (-1) = (-1) := by unfold ansB; rw [if_neg hp]
    simp only [eA]
    refine XG.blk tX9_start_ok 0 2 (pc' := 2) (pl' := [some (.ref 0), some (.int p), none]) (st' := [(.int p), (.ref 0)]) (W1 := (mW v a b)) (bs := []) rfl rfl rfl ?_
    refine XG.callV0 eX9_start_2 kl_X9_403 (con_isCrosser (d - 1) v a b p lv sp sl cr I (by omega)) (px_fitS (by omega)) rfl rfl rfl (Nat.le_of_ble_eq_true rfl) (fun r9 W9 hp9 hl9 => ?_)
    obtain ⟨rfl, rfl⟩ := hp9
    refine XG.br eX9_start_5 (P := ¬ (if px_vb p cr = true then 1 else 0) = 0) (r := []) rfl (tgt := 10) (by decide) (fun h5 => ?_) (fun h5 => ?_)
    · exfalso
      exact absurd (vb_of h5) hp
    · skip
      have h5 := Decidable.not_not.mp h5
      refine XG.blk tX9_start_ok 4 1 (pc' := 9) (pl' := [some (.ref 0), some (.int p), none]) (st' := [(.int (-1))]) (W1 := (mW v a b)) (bs := []) rfl rfl rfl ?_
      refine XS.iret eX9_start_9 rfl rfl ?_
      exact ⟨_, _, rfl, Qs.rf, rfl⟩
def qTells (a : Nat → Nat → Int32) (lv sl cr x : Nat) (what : Int32) : Int32 := if (nI 0 ≤ what ∧ what ≤ nI 1) ∧ slp (a 54) (a 35 lv) x then (if what = 0 then askV (aQ a) lv sl cr 1 x (nI 0) (nI 0) (nI 100) else askV (aQ a) lv sl cr 2 x (nI 0) (-9) (nI 9)) else -100
set_option maxHeartbeats 400000 in
theorem con_tells (d : Nat) (v : Nat → Int32) (a : Nat → Nat → Int32) (b : Nat → Nat → Int64) (lv sp sl cr : Nat) (I : MI v a lv sp sl cr) (hwf : wf3 a lv) (p what : Int32) (hd : 5 ≤ d) : Con mX9_tells d [.ref 0, .int p, .int what] (mW v a b) (fun r W' => ∃ v' a', W' = mW v' a' b ∧ Qs v v' a a' ∧ r = some (.int (ansB p sl (fun x => qTells a lv sl cr x what) (-100)))) := by
  obtain ⟨hlv, hlv2, hsp, hsp1, hsp2, hsl, hsl2, hcr, hcr2⟩ := id I
  refine Con.of (by decide) (Nat.le_of_ble_eq_true rfl) ?_
  by_cases hp : px_vb p sl = true
  · obtain ⟨x, hx, rfl⟩ := px_vb_ex hp (by omega)
    have eA : ansB (nI x) sl (fun x => qTells a lv sl cr x what) (-100) = (fun x => qTells a lv sl cr x what) x := by unfold ansB; rw [if_pos hp, nI_clamp (by omega)]
    simp only [eA]
    refine XG.blk tX9_tells_ok 0 2 (pc' := 2) (pl' := [some (.ref 0), some (.int (nI x)), some (.int what)]) (st' := [(.int (nI x)), (.ref 0)]) (W1 := (mW v a b)) (bs := []) rfl rfl rfl ?_
    refine XG.callV0 eX9_tells_2 kl_X9_397 (con_isSleeper (d - 1) v a b (nI x) lv sp sl cr I (by omega)) (px_fitS (by omega)) rfl rfl rfl (Nat.le_of_ble_eq_true rfl) (fun r9 W9 hp9 hl9 => ?_)
    obtain ⟨rfl, rfl⟩ := hp9
    refine XG.br eX9_tells_5 (P := (if px_vb (nI x) sl = true then 1 else 0) = 0) (r := []) rfl (tgt := 17) (by decide) (fun h5 => ?_) (fun h5 => ?_)
    · exfalso
      exact (one_ne.mp h5) hp
    · skip
      refine XG.blk tX9_tells_ok 4 3 (pc' := 11) (pl' := [some (.ref 0), some (.int (nI x)), some (.int what)]) (st' := [(.int (nI 1)), (.int (nI 0)), (.int what)]) (W1 := (mW v a b)) (bs := []) rfl rfl rfl ?_
      refine XG.callSp (r := some (.int (if (nI 0) ≤ what ∧ what ≤ (nI 1) then 1 else 0))) eX9_tells_11 kl_X9_331 (con_in (d - 1) what (nI 0) (nI 1)) (px_fitS (by omega)) rfl rfl rfl rfl (Nat.le_of_ble_eq_true rfl) ?_
      refine XG.br eX9_tells_14 (P := ¬ (if (nI 0) ≤ what ∧ what ≤ (nI 1) then 1 else 0) = 0) (r := []) rfl (tgt := 20) (by decide) (fun h14 => ?_) (fun h14 => ?_)
      · skip
        refine XG.blk tX9_tells_ok 11 1 (pc' := 21) (pl' := [some (.ref 0), some (.int (nI x)), some (.int what)]) (st' := [(.ref 0)]) (W1 := (mW v a b)) (bs := []) rfl rfl rfl ?_
        refine XG.callV0 eX9_tells_21 kl_X9_400 (con_copQ (d - 1) v a b lv sp sl cr I) (px_fitS (by omega)) rfl rfl rfl (Nat.le_of_ble_eq_true rfl) (fun r9 W9 hp9 hl9 => ?_)
        obtain ⟨rfl, rfl⟩ := hp9
        obtain ⟨v0, hv0⟩ : ∃ z, z = vQ v a lv 0 := ⟨_, rfl⟩
        obtain ⟨a0, ha0⟩ : ∃ z, z = aQ a := ⟨_, rfl⟩
        rw [← hv0, ← ha0]
        have hK9 : K v0 a0 (a 54) (a 60) v0 a0 := by rw [hv0, ha0]; exact kQ
        have I0 : MI v0 a0 lv sp sl cr := by rw [hv0, ha0]; exact I
        have hw3 : wf3 a0 lv := by rw [ha0]; exact wf3_Q hwf
        have hlv0 := I0.1
        refine XG.blk tX9_tells_ok 13 2 (pc' := 26) (pl' := [some (.ref 0), some (.int (nI x)), some (.int what)]) (st' := [(.int (nI x)), (.ref 0)]) (W1 := (mW v0 a0 b)) (bs := []) rfl rfl rfl ?_
        refine XG.callV0 eX9_tells_26 kl_X9_348 (con_sK (d - 1) v0 v0 a0 a0 b _ _ hK9 lv sp sl cr I0 x (by omega)) (px_fitS (by omega)) rfl rfl rfl (Nat.le_of_ble_eq_true rfl) (fun r9 W9 hp9 hl9 => ?_)
        obtain ⟨rfl, rfl⟩ := hp9
        refine XG.br eX9_tells_29 (P := ¬ (if slp (a 54) (a0 35 lv) x then 1 else 0) = 0) (r := []) rfl (tgt := 35) (by decide) (fun h29 => ?_) (fun h29 => ?_)
        · skip
          refine XG.blk tX9_tells_ok 19 1 (pc' := 36) (pl' := [some (.ref 0), some (.int (nI x)), some (.int what)]) (st' := [(.int what)]) (W1 := (mW v0 a0 b)) (bs := []) rfl rfl rfl ?_
          refine XG.br eX9_tells_36 (P := ¬ what = 0) (r := []) rfl (tgt := 52) (by decide) (fun h36 => ?_) (fun h36 => ?_)
          · skip
            refine XG.blk tX9_tells_ok 29 6 (pc' := 60) (pl' := [some (.ref 0), some (.int (nI x)), some (.int what)]) (st' := [(.int (nI 9)), (.int (-9)), (.int (nI 0)), (.int (nI x)), (.int (nI 2)), (.ref 0)]) (W1 := (mW v0 a0 b)) (bs := []) rfl rfl rfl ?_
            refine XG.callV0 eX9_tells_60 kl_X9_369 (con_asks (d - 1) v0 v0 a0 a0 b J.rf lv sp sl cr I0 2 x (nI 0) (-9) (nI 9) (by omega) (by omega) (hw3 2 (by omega)) (by omega)) (px_fitS (by omega)) rfl rfl rfl (Nat.le_of_ble_eq_true rfl) (fun r9 W9 hp9 hl9 => ?_)
            obtain ⟨v21, a21, rfl, hj21, rfl⟩ := hp9
            refine XS.iret eX9_tells_63 rfl rfl ?_
            exact ⟨_, _, rfl, (Qs.c hv0 ha0).tr (Qs.J hj21), by unfold qTells; rw [if_pos ⟨Decidable.not_not.mp (fun z => h14 (one_ne.mpr z)), by rw [← (show a0 35 = a 35 from ha0 ▸ rfl)]; exact Decidable.not_not.mp (fun z => h29 (one_ne.mpr z))⟩, if_neg h36, ← ha0]⟩
          · skip
            have h36 := Decidable.not_not.mp h36
            refine XG.blk tX9_tells_ok 21 6 (pc' := 46) (pl' := [some (.ref 0), some (.int (nI x)), some (.int what)]) (st' := [(.int (nI 100)), (.int (nI 0)), (.int (nI 0)), (.int (nI x)), (.int (nI 1)), (.ref 0)]) (W1 := (mW v0 a0 b)) (bs := []) rfl rfl rfl ?_
            refine XG.callV0 eX9_tells_46 kl_X9_369 (con_asks (d - 1) v0 v0 a0 a0 b J.rf lv sp sl cr I0 1 x (nI 0) (nI 0) (nI 100) (by omega) (by omega) (hw3 1 (by omega)) (by omega)) (px_fitS (by omega)) rfl rfl rfl (Nat.le_of_ble_eq_true rfl) (fun r9 W9 hp9 hl9 => ?_)
            obtain ⟨v22, a22, rfl, hj22, rfl⟩ := hp9
            refine XG.goto eX9_tells_49 (tgt := 63) (by decide) ?_
            refine XS.iret eX9_tells_63 rfl rfl ?_
            exact ⟨_, _, rfl, (Qs.c hv0 ha0).tr (Qs.J hj22), by unfold qTells; rw [if_pos ⟨Decidable.not_not.mp (fun z => h14 (one_ne.mpr z)), by rw [← (show a0 35 = a 35 from ha0 ▸ rfl)]; exact Decidable.not_not.mp (fun z => h29 (one_ne.mpr z))⟩, if_pos h36, ← ha0]⟩
        · skip
          have h29 := Decidable.not_not.mp h29
          refine XG.blk tX9_tells_ok 17 1 (pc' := 34) (pl' := [some (.ref 0), some (.int (nI x)), some (.int what)]) (st' := [(.int (-100))]) (W1 := (mW v0 a0 b)) (bs := []) rfl rfl rfl ?_
          refine XS.iret eX9_tells_34 rfl rfl ?_
          exact ⟨_, _, rfl, Qs.c hv0 ha0, by unfold qTells; rw [if_neg (fun hc => (one_ne.mp h29) (by rw [(show a0 35 = a 35 from ha0 ▸ rfl)]; exact hc.2))]⟩
      · skip
        have h14 := Decidable.not_not.mp h14
        refine XG.blk tX9_tells_ok 9 1 (pc' := 19) (pl' := [some (.ref 0), some (.int (nI x)), some (.int what)]) (st' := [(.int (-100))]) (W1 := (mW v a b)) (bs := []) rfl rfl rfl ?_
        refine XS.iret eX9_tells_19 rfl rfl ?_
        exact ⟨_, _, rfl, Qs.rf, by unfold qTells; rw [if_neg (fun hc => (one_ne.mp h14) hc.1)]⟩
  · have eA : ansB p sl (fun x => qTells a lv sl cr x what) (-100) = -100 := by unfold ansB; rw [if_neg hp]
    simp only [eA]
    refine XG.blk tX9_tells_ok 0 2 (pc' := 2) (pl' := [some (.ref 0), some (.int p), some (.int what)]) (st' := [(.int p), (.ref 0)]) (W1 := (mW v a b)) (bs := []) rfl rfl rfl ?_
    refine XG.callV0 eX9_tells_2 kl_X9_397 (con_isSleeper (d - 1) v a b p lv sp sl cr I (by omega)) (px_fitS (by omega)) rfl rfl rfl (Nat.le_of_ble_eq_true rfl) (fun r9 W9 hp9 hl9 => ?_)
    obtain ⟨rfl, rfl⟩ := hp9
    refine XG.br eX9_tells_5 (P := (if px_vb p sl = true then 1 else 0) = 0) (r := []) rfl (tgt := 17) (by decide) (fun h5 => ?_) (fun h5 => ?_)
    · skip
      refine XG.blk tX9_tells_ok 9 1 (pc' := 19) (pl' := [some (.ref 0), some (.int p), some (.int what)]) (st' := [(.int (-100))]) (W1 := (mW v a b)) (bs := []) rfl rfl rfl ?_
      refine XS.iret eX9_tells_19 rfl rfl ?_
      exact ⟨_, _, rfl, Qs.rf, rfl⟩
    · exfalso
      exact absurd (vb_of h5) hp
