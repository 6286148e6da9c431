/-! the reference: year -/
theorem con_goQ (d : Nat) (v v9 : Nat → Int32) (a a9 : Nat → Nat → Int32) (b : Nat → Nat → Int64) (hQ : Qs v v9 a a9) (y : Int32) (R : Nat → Int32) (lv sp sl cr : Nat) (I : MI v a lv sp sl cr) (hwf : wf3 a lv) (n : Nat) (hn : n < 2000) (hd : 8 ≤ d) : Con mX9_goes d [.ref 0, .int (nI n)] (mW (va_up (vQ v9 a9 lv 0) 56 y) (va_up (aQ a9) 55 R) b) (fun z W' => ∃ v' a', W' = mW v' a' b ∧ Qs v v' a a' ∧ a' 55 = snR (va_up (vQ v a lv 0) 56 y) (aQ a) lv sp sl cr R n ∧ z = none) := by
  have I9 : MI (va_up (vQ v9 a9 lv 0) 56 y) (aQ a9) lv sp sl cr := hQ.MI I
  have hK : K (va_up (vQ v9 a9 lv 0) 56 y) (aQ a9) R (a9 60) (va_up (vQ v9 a9 lv 0) 56 y) (va_up (aQ a9) 55 R) := ⟨chg.rf, chg.up (by decide), rfl, rfl⟩
  have h1 := con_goes d _ _ _ _ b _ _ hK lv sp sl cr I9 (wf3_Q (hQ.w3 hwf)) n hn hd
  refine h1.mono (fun r W' hp => ?_)
  obtain ⟨v', a', w', rfl, hk, rfl⟩ := hp
  have hq0 : Qs v9 (va_up (vQ v9 a9 lv 0) 56 y) a9 (aQ a9) := ⟨(Qs.c (v := v9) (a := a9) (lv := lv) (q := 0) rfl rfl).1.tr (chg.up (by decide)), (Qs.c (v := v9) (a := a9) (lv := lv) (q := 0) rfl rfl).2⟩
  refine ⟨v', a', rfl, hQ.tr (hq0.tr (Qs.K hk)), ?_, rfl⟩
  rw [hk.2.2.1]
  exact snR_cg (v := va_up (vQ v a lv 0) 56 y) rfl rfl hQ.rel lv sp sl cr R n
theorem con_goQ0 (d : Nat) (v v9 : Nat → Int32) (a a9 : Nat → Nat → Int32) (b : Nat → Nat → Int64) (hQ : Qs v v9 a a9) (y : Int32) (lv sp sl cr : Nat) (I : MI v a lv sp sl cr) (hwf : wf3 a lv) (n : Nat) (hn : n < 2000) (hd : 8 ≤ d) : Con mX9_goes d [.ref 0, .int (nI n)] (mW (va_up (vQ v9 a9 lv 0) 56 y) (aQ a9) b) (fun z W' => ∃ v' a', W' = mW v' a' b ∧ Qs v v' a a' ∧ a' 55 = snR (va_up (vQ v a lv 0) 56 y) (aQ a) lv sp sl cr (a 54) n ∧ z = none) := by
  have h := con_goQ d v v9 a a9 b hQ y (a 54) lv sp sl cr I hwf n hn hd
  have e : va_up (aQ a9) 55 (a 54) = aQ a9 := by
    rw [show a 54 = (aQ a9) 55 from (hQ.2 54 (by decide)).symm]
    exact va_up_id (aQ a9) 55
  rw [e] at h
  exact h
def yrR (a : Nat → Nat → Int32) (x : Nat) : Nat → Int32 := if a 54 (18 + x) = -2 then upd (a 54) (18 + x) (-3) else a 54
def yrF (v : Nat → Int32) (a : Nat → Nat → Int32) (lv sp sl cr x n : Nat) : Nat → Int32 → Int32 := fun k m => if snR (va_up (vQ v a lv 0) 56 (a 37 lv + nI k)) (aQ a) lv sp sl cr (yrR a x) n (18 + x) = nI 9 then m + nI 1 else m
abbrev okYr (cr : Nat) (c n s : Int32) : Prop := px_vb c cr = true ∧ px_vb n 100 = true ∧ (nI 1 ≤ s ∧ s ≤ nI 20)
theorem in20 {s : Int32} (h : nI 1 ≤ s ∧ s ≤ nI 20) : px_vb s 21 = true := by
  rw [px_vb_iff]
  rw [Int32.le_iff_toInt_le, Int32.le_iff_toInt_le, show (nI 1).toInt = 1 from rfl, show (nI 20).toInt = 20 from rfl] at h
  omega
set_option maxHeartbeats 400000 in
theorem con_year (d : Nat) (v : Nat → Int32) (a : Nat → Nat → Int32) (b : Nat → Nat → Int64) (lv sp sl cr : Nat) (I : MI v a lv sp sl cr) (hwf : wf3 a lv) (p n s : Int32) (hd : 9 ≤ d) : Con mX9_year d [.ref 0, .int p, .int n, .int s] (mW v a b) (fun r W' => ∃ v' a', W' = mW v' a' b ∧ Qs v v' a a' ∧ r = some (.int (if okYr cr p n s then itN (yrF v a lv sp sl cr p.toNatClampNeg n.toNatClampNeg) (nI 0) s.toNatClampNeg else -1))) := by
  obtain ⟨hlv, hlv2, hsp, hsp1, hsp2, hsl, hsl2, hcr, hcr2⟩ := id I
  refine Con.of (by decide) (Nat.le_of_ble_eq_true rfl) ?_
  by_cases hok : okYr cr p n s
  · simp only [if_pos hok]
    obtain ⟨hp, hn, hs⟩ := hok
    obtain ⟨x, hx, rfl⟩ := px_vb_ex hp (by omega)
    obtain ⟨n, hn2, rfl⟩ := px_vb_ex hn (by decide)
    obtain ⟨s, hs2, rfl⟩ := px_vb_ex (in20 hs) (by decide)
    rw [nI_clamp (show x < 2 ^ 31 by omega), nI_clamp (show n < 2 ^ 31 by omega), nI_clamp (show s < 2 ^ 31 by omega)]
    refine XG.blk tX9_year_ok 0 2 (pc' := 2) (pl' := [some (.ref 0), some (.int (nI x)), some (.int (nI n)), some (.int (nI s)), none, none]) (st' := [(.int (nI x)), (.ref 0)]) (W1 := (mW v a b)) (bs := []) rfl rfl rfl ?_
    refine XG.callV0 eX9_year_2 kl_X9_403 (con_isCrosser (d - 1) v a b (nI x) lv sp sl cr I (by omega)) (px_fitS (by omega)) rfl rfl rfl (Nat.le_of_ble_eq_true rfl) (fun r9 W9 hp9 hl9 => ?_)
    obtain ⟨rfl, rfl⟩ := hp9
    refine XG.br eX9_year_5 (P := (if px_vb (nI x) cr = true then 1 else 0) = 0) (r := []) rfl (tgt := 25) (by decide) (fun h5 => ?_) (fun h5 => ?_)
    · exfalso
      first | exact (one_ne.mp h5) hp | exact (one_ne.mp h12) hn | exact (one_ne.mp h22) hs
    · skip
      refine XG.blk tX9_year_ok 4 1 (pc' := 9) (pl' := [some (.ref 0), some (.int (nI x)), some (.int (nI n)), some (.int (nI s)), none, none]) (st' := [(.int (nI n))]) (W1 := (mW v a b)) (bs := []) rfl rfl rfl ?_
      refine XG.callSp (r := some (.int (if px_vb (nI n) 100 = true then 1 else 0))) eX9_year_9 kl_X9_418 (con_isLong (d - 1) (nI n) (by omega)) (px_fitS (by omega)) rfl rfl rfl rfl (Nat.le_of_ble_eq_true rfl) ?_
      refine XG.br eX9_year_12 (P := (if px_vb (nI n) 100 = true then 1 else 0) = 0) (r := []) rfl (tgt := 25) (by decide) (fun h12 => ?_) (fun h12 => ?_)
      · exfalso
        first | exact (one_ne.mp h5) hp | exact (one_ne.mp h12) hn | exact (one_ne.mp h22) hs
      · skip
        refine XG.blk tX9_year_ok 7 3 (pc' := 19) (pl' := [some (.ref 0), some (.int (nI x)), some (.int (nI n)), some (.int (nI s)), none, none]) (st' := [(.int (nI 20)), (.int (nI 1)), (.int (nI s))]) (W1 := (mW v a b)) (bs := []) rfl rfl rfl ?_
        refine XG.callSp (r := some (.int (if (nI 1) ≤ (nI s) ∧ (nI s) ≤ (nI 20) then 1 else 0))) eX9_year_19 kl_X9_331 (con_in (d - 1) (nI s) (nI 1) (nI 20)) (px_fitS (by omega)) rfl rfl rfl rfl (Nat.le_of_ble_eq_true rfl) ?_
        refine XG.br eX9_year_22 (P := ¬ (if (nI 1) ≤ (nI s) ∧ (nI s) ≤ (nI 20) then 1 else 0) = 0) (r := []) rfl (tgt := 27) (by decide) (fun h22 => ?_) (fun h22 => ?_)
        · skip
          refine XG.blk tX9_year_ok 14 4 (pc' := 33) (pl' := [some (.ref 0), some (.int (nI x)), some (.int (nI n)), some (.int (nI s)), some (.int (nI 0)), some (.int (nI 0))]) (st' := []) (W1 := (mW v a b)) (bs := []) rfl rfl rfl ?_
          refine px_for s (fun k => ∀ (v9 : Nat → Int32) (a9 : Nat → Nat → Int32) (hQ9 : Qs v v9 a a9), XG mX9_year _ 0 0 33 [some (.ref 0), some (.int (nI x)), some (.int (nI n)), some (.int (nI s)), some (.int (itN (yrF v a lv sp sl cr x n) (nI 0) k)), some (.int (nI k))] [] (mW v9 a9 b)) ?_ ?_ 0 (Nat.zero_le _) v a Qs.rf
          · intro v9 a9 hQ9
            have I9 := hQ9.MI I
            obtain ⟨hlv9, -, hsp9, -, -, hsl9, -, hcr9, -⟩ := id I9
            refine XG.blk tX9_year_ok 18 2 (pc' := 36) (pl' := [some (.ref 0), some (.int (nI x)), some (.int (nI n)), some (.int (nI s)), some (.int (itN (yrF v a lv sp sl cr x n) (nI 0) s)), some (.int (nI s))]) (st' := [(.int (nI s)), (.int (nI s))]) (W1 := (mW v9 a9 b)) (bs := []) rfl rfl rfl ?_
            refine XG.br eX9_year_36 (P := (nI s) ≤ (nI s)) (r := []) rfl (tgt := 107) (by decide) (fun h36 => ?_) (fun h36 => ?_)
            · skip
              have g36 : s ≤ s := (nI_leI (a := s) (b := s) (by omega) (by omega)).mp h36
              refine XG.blk tX9_year_ok 58 1 (pc' := 109) (pl' := [some (.ref 0), some (.int (nI x)), some (.int (nI n)), some (.int (nI s)), some (.int (itN (yrF v a lv sp sl cr x n) (nI 0) s)), some (.int (nI s))]) (st' := [(.int (itN (yrF v a lv sp sl cr x n) (nI 0) s))]) (W1 := (mW v9 a9 b)) (bs := []) rfl rfl rfl ?_
              refine XS.iret eX9_year_109 rfl rfl ?_
              exact ⟨_, _, rfl, hQ9, rfl⟩
            · exfalso
              have g36 : ¬ s ≤ s := (fun z => h36 ((nI_leI (a := s) (b := s) (by omega) (by omega)).mpr z))
              omega
          · intro k hk ihk v9 a9 hQ9
            have I9 := hQ9.MI I
            obtain ⟨hlv9, -, hsp9, -, -, hsl9, -, hcr9, -⟩ := id I9
            refine XG.blk tX9_year_ok 18 2 (pc' := 36) (pl' := [some (.ref 0), some (.int (nI x)), some (.int (nI n)), some (.int (nI s)), some (.int (itN (yrF v a lv sp sl cr x n) (nI 0) k)), some (.int (nI k))]) (st' := [(.int (nI s)), (.int (nI k))]) (W1 := (mW v9 a9 b)) (bs := []) rfl rfl rfl ?_
            refine XG.br eX9_year_36 (P := (nI s) ≤ (nI k)) (r := []) rfl (tgt := 107) (by decide) (fun h36 => ?_) (fun h36 => ?_)
            · exfalso
              have g36 : s ≤ k := (nI_leI (a := s) (b := k) (by omega) (by omega)).mp h36
              omega
            · skip
              have g36 : ¬ s ≤ k := (fun z => h36 ((nI_leI (a := s) (b := k) (by omega) (by omega)).mpr z))
              refine XG.blk tX9_year_ok 21 1 (pc' := 40) (pl' := [some (.ref 0), some (.int (nI x)), some (.int (nI n)), some (.int (nI s)), some (.int (itN (yrF v a lv sp sl cr x n) (nI 0) k)), some (.int (nI k))]) (st' := [(.ref 0)]) (W1 := (mW v9 a9 b)) (bs := []) rfl rfl rfl ?_
              refine XG.callV0 eX9_year_40 kl_X9_400 (con_copQ (d - 1) v9 a9 b lv sp sl cr (hQ9.MI I)) (px_fitS (by omega)) rfl rfl rfl (Nat.le_of_ble_eq_true rfl) (fun r9 W9 hp9 hl9 => ?_)
              obtain ⟨rfl, rfl⟩ := hp9
              have q1 : ((vQ v9 a9 lv 0) 56) = (a 37 lv) := (show a9 37 lv = a 37 lv by rw [hQ9.2 37 (by decide)])
              have q2 : ((nI 18) + (nI x)) = (nI (18 + x)) := px_eadd rfl rfl
              have q3 : ((aQ a9) 55) = (a 54) := hQ9.2 54 (by decide)
              have q4 : (nI (18 + x)).toNatClampNeg = (18 + x) := nI_clamp (by omega)
              refine XG.blk tX9_year_ok 23 13 (pc' := 65) (pl' := [some (.ref 0), some (.int (nI x)), some (.int (nI n)), some (.int (nI s)), some (.int (itN (yrF v a lv sp sl cr x n) (nI 0) k)), some (.int (nI k))]) (st' := [(.int (-2)), (.int (((aQ a9) 55) ((nI 18) + (nI x)).toNatClampNeg))]) (W1 := (mW (va_up (vQ v9 a9 lv 0) 56 (((vQ v9 a9 lv 0) 56) + (nI k))) (aQ a9) b)) (bs := [px_vb ((nI 18) + (nI x)) 32]) rfl rfl (by (try simp only [q1, q2, q3, q4]); exact (px_all (px_vbN (by omega) (by decide)) rfl)) ?_
              simp only [q1, q2, q3, q4]
              refine XG.br eX9_year_65 (P := ¬ ((a 54) (18 + x)) = (-2)) (r := []) rfl (tgt := 79) (by decide) (fun h65 => ?_) (fun h65 => ?_)
              · skip
                refine XG.blk tX9_year_ok 44 2 (pc' := 81) (pl' := [some (.ref 0), some (.int (nI x)), some (.int (nI n)), some (.int (nI s)), some (.int (itN (yrF v a lv sp sl cr x n) (nI 0) k)), some (.int (nI k))]) (st' := [(.int (nI n)), (.ref 0)]) (W1 := (mW (va_up (vQ v9 a9 lv 0) 56 ((a 37 lv) + (nI k))) (aQ a9) b)) (bs := []) rfl rfl rfl ?_
                refine XG.callV0 eX9_year_81 kl_X9_415 (con_goQ0 (d - 1) v v9 a a9 b hQ9 ((a 37 lv) + (nI k)) lv sp sl cr I hwf n (by omega) (by omega)) (px_fitS (by omega)) rfl rfl rfl (Nat.le_of_ble_eq_true rfl) (fun r9 W9 hp9 hl9 => ?_)
                obtain ⟨v21, a21, rfl, hQ21, h55_21, rfl⟩ := hp9
                rw [show (a 54) = yrR a x from (if_neg h65).symm] at h55_21
                have q5 : ((nI 18) + (nI x)) = (nI (18 + x)) := px_eadd rfl rfl
                have q6 : (a21 55) = (snR (va_up (vQ v a lv 0) 56 ((a 37 lv) + (nI k))) (aQ a) lv sp sl cr (yrR a x) n) := h55_21
                have q7 : (nI (18 + x)).toNatClampNeg = (18 + x) := nI_clamp (by omega)
                refine XG.blk tX9_year_ok 47 7 (pc' := 95) (pl' := [some (.ref 0), some (.int (nI x)), some (.int (nI n)), some (.int (nI s)), some (.int (itN (yrF v a lv sp sl cr x n) (nI 0) k)), some (.int (nI k))]) (st' := [(.int (nI 9)), (.int ((a21 55) ((nI 18) + (nI x)).toNatClampNeg))]) (W1 := (mW v21 a21 b)) (bs := [px_vb ((nI 18) + (nI x)) 32]) rfl rfl (by (try simp only [q5, q6, q7]); exact (px_all (px_vbN (by omega) (by decide)) rfl)) ?_
                simp only [q5, q6, q7]
                refine XG.br eX9_year_95 (P := ¬ ((snR (va_up (vQ v a lv 0) 56 ((a 37 lv) + (nI k))) (aQ a) lv sp sl cr (yrR a x) n) (18 + x)) = (nI 9)) (r := []) rfl (tgt := 101) (by decide) (fun h95 => ?_) (fun h95 => ?_)
                · skip
                  have q8 : ((nI k) + (nI 1)) = (nI (k + 1)) := px_eadd rfl rfl
                  refine XG.blk tX9_year_ok 56 1 (pc' := 104) (pl' := [some (.ref 0), some (.int (nI x)), some (.int (nI n)), some (.int (nI s)), some (.int (itN (yrF v a lv sp sl cr x n) (nI 0) k)), some (.int ((nI k) + (nI 1)))]) (st' := []) (W1 := (mW v21 a21 b)) (bs := []) rfl rfl rfl ?_
                  simp only [q8]
                  refine XG.goto eX9_year_104 (tgt := 33) (by decide) ?_
                  rw [show (itN (yrF v a lv sp sl cr x n) (nI 0) (k + 1)) = (itN (yrF v a lv sp sl cr x n) (nI 0) k) from if_neg h95] at ihk
                  exact ihk v21 a21 hQ21
                · skip
                  have h95 := Decidable.not_not.mp h95
                  have q9 : ((nI k) + (nI 1)) = (nI (k + 1)) := px_eadd rfl rfl
                  refine XG.blk tX9_year_ok 55 2 (pc' := 104) (pl' := [some (.ref 0), some (.int (nI x)), some (.int (nI n)), some (.int (nI s)), some (.int ((itN (yrF v a lv sp sl cr x n) (nI 0) k) + (nI 1))), some (.int ((nI k) + (nI 1)))]) (st' := []) (W1 := (mW v21 a21 b)) (bs := []) rfl rfl rfl ?_
                  simp only [q9]
                  refine XG.goto eX9_year_104 (tgt := 33) (by decide) ?_
                  rw [show (itN (yrF v a lv sp sl cr x n) (nI 0) (k + 1)) = (itN (yrF v a lv sp sl cr x n) (nI 0) k) + nI 1 from if_pos h95] at ihk
                  exact ihk v21 a21 hQ21
              · skip
                have h65 := Decidable.not_not.mp h65
                have q10 : ((nI 18) + (nI x)) = (nI (18 + x)) := px_eadd rfl rfl
                have q11 : ((aQ a9) 55) = (a 54) := hQ9.2 54 (by decide)
                have q12 : (nI (18 + x)).toNatClampNeg = (18 + x) := nI_clamp (by omega)
                refine XG.blk tX9_year_ok 37 9 (pc' := 81) (pl' := [some (.ref 0), some (.int (nI x)), some (.int (nI n)), some (.int (nI s)), some (.int (itN (yrF v a lv sp sl cr x n) (nI 0) k)), some (.int (nI k))]) (st' := [(.int (nI n)), (.ref 0)]) (W1 := (mW (va_up (vQ v9 a9 lv 0) 56 ((a 37 lv) + (nI k))) (va_up (aQ a9) 55 (upd ((aQ a9) 55) ((nI 18) + (nI x)).toNatClampNeg (-3))) b)) (bs := [px_vb ((nI 18) + (nI x)) 32]) rfl rfl (by (try simp only [q10, q11, q12]); exact (px_all (px_vbN (by omega) (by decide)) rfl)) ?_
                simp only [q10, q11, q12]
                refine XG.callV0 eX9_year_81 kl_X9_415 (con_goQ (d - 1) v v9 a a9 b hQ9 ((a 37 lv) + (nI k)) (upd (a 54) (18 + x) (-3)) lv sp sl cr I hwf n (by omega) (by omega)) (px_fitS (by omega)) rfl rfl rfl (Nat.le_of_ble_eq_true rfl) (fun r9 W9 hp9 hl9 => ?_)
                obtain ⟨v22, a22, rfl, hQ22, h55_22, rfl⟩ := hp9
                rw [show (upd (a 54) (18 + x) (-3)) = yrR a x from (if_pos h65).symm] at h55_22
                have q13 : ((nI 18) + (nI x)) = (nI (18 + x)) := px_eadd rfl rfl
                have q14 : (a22 55) = (snR (va_up (vQ v a lv 0) 56 ((a 37 lv) + (nI k))) (aQ a) lv sp sl cr (yrR a x) n) := h55_22
                have q15 : (nI (18 + x)).toNatClampNeg = (18 + x) := nI_clamp (by omega)
                refine XG.blk tX9_year_ok 47 7 (pc' := 95) (pl' := [some (.ref 0), some (.int (nI x)), some (.int (nI n)), some (.int (nI s)), some (.int (itN (yrF v a lv sp sl cr x n) (nI 0) k)), some (.int (nI k))]) (st' := [(.int (nI 9)), (.int ((a22 55) ((nI 18) + (nI x)).toNatClampNeg))]) (W1 := (mW v22 a22 b)) (bs := [px_vb ((nI 18) + (nI x)) 32]) rfl rfl (by (try simp only [q13, q14, q15]); exact (px_all (px_vbN (by omega) (by decide)) rfl)) ?_
                simp only [q13, q14, q15]
                refine XG.br eX9_year_95 (P := ¬ ((snR (va_up (vQ v a lv 0) 56 ((a 37 lv) + (nI k))) (aQ a) lv sp sl cr (yrR a x) n) (18 + x)) = (nI 9)) (r := []) rfl (tgt := 101) (by decide) (fun h95 => ?_) (fun h95 => ?_)
                · skip
                  have q16 : ((nI k) + (nI 1)) = (nI (k + 1)) := px_eadd rfl rfl
                  refine XG.blk tX9_year_ok 56 1 (pc' := 104) (pl' := [some (.ref 0), some (.int (nI x)), some (.int (nI n)), some (.int (nI s)), some (.int (itN (yrF v a lv sp sl cr x n) (nI 0) k)), some (.int ((nI k) + (nI 1)))]) (st' := []) (W1 := (mW v22 a22 b)) (bs := []) rfl rfl rfl ?_
                  simp only [q16]
                  refine XG.goto eX9_year_104 (tgt := 33) (by decide) ?_
                  rw [show (itN (yrF v a lv sp sl cr x n) (nI 0) (k + 1)) = (itN (yrF v a lv sp sl cr x n) (nI 0) k) from if_neg h95] at ihk
                  exact ihk v22 a22 hQ22
                · skip
                  have h95 := Decidable.not_not.mp h95
                  have q17 : ((nI k) + (nI 1)) = (nI (k + 1)) := px_eadd rfl rfl
                  refine XG.blk tX9_year_ok 55 2 (pc' := 104) (pl' := [some (.ref 0), some (.int (nI x)), some (.int (nI n)), some (.int (nI s)), some (.int ((itN (yrF v a lv sp sl cr x n) (nI 0) k) + (nI 1))), some (.int ((nI k) + (nI 1)))]) (st' := []) (W1 := (mW v22 a22 b)) (bs := []) rfl rfl rfl ?_
                  simp only [q17]
                  refine XG.goto eX9_year_104 (tgt := 33) (by decide) ?_
                  rw [show (itN (yrF v a lv sp sl cr x n) (nI 0) (k + 1)) = (itN (yrF v a lv sp sl cr x n) (nI 0) k) + nI 1 from if_pos h95] at ihk
                  exact ihk v22 a22 hQ22
        · exfalso
          have h22 := Decidable.not_not.mp h22
          first | exact (one_ne.mp h5) hp | exact (one_ne.mp h12) hn | exact (one_ne.mp h22) hs
  · simp only [if_neg hok]
    refine XG.blk tX9_year_ok 0 2 (pc' := 2) (pl' := [some (.ref 0), some (.int p), some (.int n), some (.int s), none, none]) (st' := [(.int p), (.ref 0)]) (W1 := (mW v a b)) (bs := []) rfl rfl rfl ?_
    refine XG.callV0 eX9_year_2 kl_X9_403 (con_isCrosser (d - 1) v a b p lv sp sl cr I (by omega)) (px_fitS (by omega)) rfl rfl rfl (Nat.le_of_ble_eq_true rfl) (fun r9 W9 hp9 hl9 => ?_)
    obtain ⟨rfl, rfl⟩ := hp9
    refine XG.br eX9_year_5 (P := (if px_vb p cr = true then 1 else 0) = 0) (r := []) rfl (tgt := 25) (by decide) (fun h5 => ?_) (fun h5 => ?_)
    · skip
      refine XG.blk tX9_year_ok 12 1 (pc' := 26) (pl' := [some (.ref 0), some (.int p), some (.int n), some (.int s), none, none]) (st' := [(.int (-1))]) (W1 := (mW v a b)) (bs := []) rfl rfl rfl ?_
      refine XS.iret eX9_year_26 rfl rfl ?_
      exact ⟨_, _, rfl, Qs.rf, rfl⟩
    · skip
      refine XG.blk tX9_year_ok 4 1 (pc' := 9) (pl' := [some (.ref 0), some (.int p), some (.int n), some (.int s), none, none]) (st' := [(.int n)]) (W1 := (mW v a b)) (bs := []) rfl rfl rfl ?_
      refine XG.callSp (r := some (.int (if px_vb n 100 = true then 1 else 0))) eX9_year_9 kl_X9_418 (con_isLong (d - 1) n (by omega)) (px_fitS (by omega)) rfl rfl rfl rfl (Nat.le_of_ble_eq_true rfl) ?_
      refine XG.br eX9_year_12 (P := (if px_vb n 100 = true then 1 else 0) = 0) (r := []) rfl (tgt := 25) (by decide) (fun h12 => ?_) (fun h12 => ?_)
      · skip
        refine XG.blk tX9_year_ok 12 1 (pc' := 26) (pl' := [some (.ref 0), some (.int p), some (.int n), some (.int s), none, none]) (st' := [(.int (-1))]) (W1 := (mW v a b)) (bs := []) rfl rfl rfl ?_
        refine XS.iret eX9_year_26 rfl rfl ?_
        exact ⟨_, _, rfl, Qs.rf, rfl⟩
      · skip
        refine XG.blk tX9_year_ok 7 3 (pc' := 19) (pl' := [some (.ref 0), some (.int p), some (.int n), some (.int s), none, none]) (st' := [(.int (nI 20)), (.int (nI 1)), (.int s)]) (W1 := (mW v a b)) (bs := []) rfl rfl rfl ?_
        refine XG.callSp (r := some (.int (if (nI 1) ≤ s ∧ s ≤ (nI 20) then 1 else 0))) eX9_year_19 kl_X9_331 (con_in (d - 1) s (nI 1) (nI 20)) (px_fitS (by omega)) rfl rfl rfl rfl (Nat.le_of_ble_eq_true rfl) ?_
        refine XG.br eX9_year_22 (P := ¬ (if (nI 1) ≤ s ∧ s ≤ (nI 20) then 1 else 0) = 0) (r := []) rfl (tgt := 27) (by decide) (fun h22 => ?_) (fun h22 => ?_)
        · skip
          exact absurd ⟨vb_of h5, vb_of h12, Decidable.not_not.mp (fun z => h22 (one_ne.mpr z))⟩ hok
        · skip
          have h22 := Decidable.not_not.mp h22
          refine XG.blk tX9_year_ok 12 1 (pc' := 26) (pl' := [some (.ref 0), some (.int p), some (.int n), some (.int s), none, none]) (st' := [(.int (-1))]) (W1 := (mW v a b)) (bs := []) rfl rfl rfl ?_
          refine XS.iret eX9_year_26 rfl rfl ?_
          exact ⟨_, _, rfl, Qs.rf, rfl⟩
