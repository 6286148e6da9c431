/-! the reference: who may be awake -/
def mbP (a0 : Nat → Nat → Int32) (lv sl cr : Nat) (r0 : Nat → Int32) (s : Int32) : Nat → Bool := fun i => decide (¬ bR a0 lv sl cr (saF r0 sl (s ^^^ (-1))) (a0 70 i) = a0 71 i)
def mbF (a0 : Nat → Nat → Int32) (lv sl cr : Nat) (r0 : Nat → Int32) (k : Nat) (s : Int32) : Bool := (findN (mbP a0 lv sl cr r0 s) k 0).isNone
set_option maxHeartbeats 400000 in
theorem con_mbK (d : Nat) (v0 v9 : Nat → Int32) (a0 a9 : Nat → Nat → Int32) (b : Nat → Nat → Int64) (r w : Nat → Int32) (hK9 : K v0 a0 r w v9 a9) (lv sp sl cr : Nat) (I0 : MI v0 a0 lv sp sl cr) (hw3 : wf3 a0 lv) (s : Int32) (k : Nat) (hk : k ≤ 20) (r0 : Nat → Int32) (hSO : SO r0 sl r) (hd : 6 ≤ d) : Con mX9_mayBeAwake d [.ref 0, .int s, .int (nI k)] (mW v9 a9 b) (fun q W' => ∃ v' a', W' = mW v' a' b ∧ K v0 a0 (saF r0 sl (s ^^^ (-1))) w v' a' ∧ q = some (.int (if mbF a0 lv sl cr r0 k s = true then 1 else 0))) := by
  obtain ⟨hlv0, hlv2, hsp, hsp1, hsp2, hsl, hsl2, hcr, hcr2⟩ := id I0
  have hlv9 := (hK9.MI I0).1
  refine Con.of (by decide) (Nat.le_of_ble_eq_true rfl) ?_
  refine XG.blk tX9_mayBeAwake_ok 0 4 (pc' := 4) (pl' := [some (.ref 0), some (.int s), some (.int (nI k)), none]) (st' := [(.int (s ^^^ (-1))), (.ref 0)]) (W1 := (mW v9 a9 b)) (bs := []) rfl rfl rfl ?_
  refine XG.callV0 eX9_mayBeAwake_4 kl_X9_442 (con_saK (d - 1) v0 v9 a0 a9 b r _ hK9 lv sp sl cr I0 (s ^^^ (-1)) r0 hSO) (px_fitS (by omega)) rfl rfl rfl (Nat.le_of_ble_eq_true rfl) (fun r9 W9 hp9 hl9 => ?_)
  obtain ⟨v21, a21, rfl, hK21, rfl⟩ := hp9
  have hlv21 := (hK21.MI I0).1
  refine XG.blk tX9_mayBeAwake_ok 5 2 (pc' := 9) (pl' := [some (.ref 0), some (.int s), some (.int (nI k)), some (.int (nI 0))]) (st' := []) (W1 := (mW v21 a21 b)) (bs := []) rfl rfl rfl ?_
  obtain ⟨RS, hRS⟩ : ∃ z, z = findN (mbP a0 lv sl cr r0 s) k 0 := ⟨_, rfl⟩
  refine px_for k (fun i => ∀ (v9 : Nat → Int32) (a9 : Nat → Nat → Int32) (hK9 : K v0 a0 (saF r0 sl (s ^^^ (-1))) w v9 a9) (hr : findN (mbP a0 lv sl cr r0 s) (k - i) i = RS), XG mX9_mayBeAwake _ 0 0 9 [some (.ref 0), some (.int s), some (.int (nI k)), some (.int (nI i))] [] (mW v9 a9 b)) ?_ ?_ 0 (Nat.zero_le _) v21 a21 hK21 (by rw [Nat.sub_zero]; exact hRS.symm)
  · intro v9 a9 hK9 hr
    have hlv9 := (hK9.MI I0).1
    refine XG.blk tX9_mayBeAwake_ok 7 2 (pc' := 11) (pl' := [some (.ref 0), some (.int s), some (.int (nI k)), some (.int (nI k))]) (st' := [(.int (nI k)), (.int (nI k))]) (W1 := (mW v9 a9 b)) (bs := []) rfl rfl rfl ?_
    refine XG.br eX9_mayBeAwake_11 (P := (nI k) ≤ (nI k)) (r := []) rfl (tgt := 41) (by decide) (fun h11 => ?_) (fun h11 => ?_)
    · skip
      have g11 : k ≤ k := (nI_leI (a := k) (b := k) (by omega) (by omega)).mp h11
      refine XG.blk tX9_mayBeAwake_ok 25 1 (pc' := 42) (pl' := [some (.ref 0), some (.int s), some (.int (nI k)), some (.int (nI k))]) (st' := [(.int (nI 1))]) (W1 := (mW v9 a9 b)) (bs := []) rfl rfl rfl ?_
      refine XS.iret eX9_mayBeAwake_42 rfl (by decide) ?_
      exact ⟨_, _, rfl, hK9, by rw [Nat.sub_self] at hr; unfold mbF; rw [← hRS, ← hr]; rfl⟩
    · exfalso
      have g11 : ¬ k ≤ k := (fun z => h11 ((nI_leI (a := k) (b := k) (by omega) (by omega)).mpr z))
      omega
  · intro i hi ihi v9 a9 hK9 hr
    have hlv9 := (hK9.MI I0).1
    rw [show k - i = (k - (i + 1)) + 1 by omega] at hr
    simp only [findN] at hr
    refine XG.blk tX9_mayBeAwake_ok 7 2 (pc' := 11) (pl' := [some (.ref 0), some (.int s), some (.int (nI k)), some (.int (nI i))]) (st' := [(.int (nI k)), (.int (nI i))]) (W1 := (mW v9 a9 b)) (bs := []) rfl rfl rfl ?_
    refine XG.br eX9_mayBeAwake_11 (P := (nI k) ≤ (nI i)) (r := []) rfl (tgt := 41) (by decide) (fun h11 => ?_) (fun h11 => ?_)
    · exfalso
      have g11 : k ≤ i := (nI_leI (a := k) (b := i) (by omega) (by omega)).mp h11
      omega
    · skip
      have g11 : ¬ k ≤ i := (fun z => h11 ((nI_leI (a := k) (b := i) (by omega) (by omega)).mpr z))
      have q1 : (a9 70) = (a0 70) := hK9.2.1 70 (by decide)
      have q2 : (nI i).toNatClampNeg = i := nI_clamp (by omega)
      refine XG.blk tX9_mayBeAwake_ok 10 5 (pc' := 21) (pl' := [some (.ref 0), some (.int s), some (.int (nI k)), some (.int (nI i))]) (st' := [(.int ((a9 70) (nI i).toNatClampNeg)), (.ref 0)]) (W1 := (mW v9 a9 b)) (bs := [px_vb (nI i) 20]) rfl rfl (by (try simp only [q1, q2]); exact (px_all (px_vbN (by omega) (by decide)) rfl)) ?_
      simp only [q1, q2]
      refine XG.callV0 eX9_mayBeAwake_21 kl_X9_379 (con_bK (d - 1) v0 v9 a0 a9 b (saF r0 sl (s ^^^ (-1))) _ hK9 lv sp sl cr I0 hw3 ((a0 70) i) (by omega)) (px_fitS (by omega)) rfl rfl rfl (Nat.le_of_ble_eq_true rfl) (fun r9 W9 hp9 hl9 => ?_)
      obtain ⟨v22, a22, rfl, hj22, rfl⟩ := hp9
      have hK22 := K.J hK9 hj22
      have hlv22 := (hK22.MI I0).1
      have q3 : (a22 71) = (a0 71) := hK22.2.1 71 (by decide)
      have q4 : (nI i).toNatClampNeg = i := nI_clamp (by omega)
      refine XG.blk tX9_mayBeAwake_ok 16 4 (pc' := 30) (pl' := [some (.ref 0), some (.int s), some (.int (nI k)), some (.int (nI i))]) (st' := [(.int ((a22 71) (nI i).toNatClampNeg)), (.int (bR a0 lv sl cr (saF r0 sl (s ^^^ (-1))) ((a0 70) i)))]) (W1 := (mW v22 a22 b)) (bs := [px_vb (nI i) 20]) rfl rfl (by (try simp only [q3, q4]); exact (px_all (px_vbN (by omega) (by decide)) rfl)) ?_
      simp only [q3, q4]
      refine XG.br eX9_mayBeAwake_30 (P := (bR a0 lv sl cr (saF r0 sl (s ^^^ (-1))) ((a0 70) i)) = ((a0 71) i)) (r := []) rfl (tgt := 35) (by decide) (fun h30 => ?_) (fun h30 => ?_)
      · skip
        have q5 : ((nI i) + (nI 1)) = (nI (i + 1)) := px_eadd rfl rfl
        refine XG.blk tX9_mayBeAwake_ok 23 1 (pc' := 38) (pl' := [some (.ref 0), some (.int s), some (.int (nI k)), some (.int ((nI i) + (nI 1)))]) (st' := []) (W1 := (mW v22 a22 b)) (bs := []) rfl rfl rfl ?_
        simp only [q5]
        refine XG.goto eX9_mayBeAwake_38 (tgt := 9) (by decide) ?_
        rw [if_neg (show ¬ (mbP a0 lv sl cr r0 s) i = true from fun z => (of_decide_eq_true z) h30)] at hr
        exact ihi v22 a22 hK22 hr
      · skip
        refine XG.blk tX9_mayBeAwake_ok 21 1 (pc' := 34) (pl' := [some (.ref 0), some (.int s), some (.int (nI k)), some (.int (nI i))]) (st' := [(.int (nI 0))]) (W1 := (mW v22 a22 b)) (bs := []) rfl rfl rfl ?_
        refine XS.iret eX9_mayBeAwake_34 rfl (by decide) ?_
        exact ⟨_, _, rfl, hK22, by rw [if_pos (show (mbP a0 lv sl cr r0 s) i = true from decide_eq_true h30)] at hr; unfold mbF; rw [← hRS, ← hr]; rfl⟩
theorem sh_pow {n : Nat} (h : n ≤ 6) : nI 1 <<< (nI n &&& 31) = nI (2 ^ n) := by
  rcases (show n = 0 ∨ n = 1 ∨ n = 2 ∨ n = 3 ∨ n = 4 ∨ n = 5 ∨ n = 6 by omega) with rfl | rfl | rfl | rfl | rfl | rfl | rfl <;> decide
theorem pow_le {n : Nat} (h : n ≤ 6) : 2 ^ n ≤ 64 := by
  rcases (show n = 0 ∨ n = 1 ∨ n = 2 ∨ n = 3 ∨ n = 4 ∨ n = 5 ∨ n = 6 by omega) with rfl | rfl | rfl | rfl | rfl | rfl | rfl <;> decide
def awN (a0 : Nat → Nat → Int32) (lv sl cr : Nat) (r0 : Nat → Int32) (k : Nat) : Nat → Int32 := itN (fun s n => if mbF a0 lv sl cr r0 k (nI s) = true then n + nI 1 else n) (nI 0)
def awP (a0 : Nat → Nat → Int32) (lv sl cr : Nat) (r0 : Nat → Int32) (k : Nat) (y : Int32) : Nat → Bool := fun s => mbF a0 lv sl cr r0 k (nI s) && decide (awN a0 lv sl cr r0 k s = y)
def qAwake (a : Nat → Nat → Int32) (lv sl cr k : Nat) (y : Int32) : Int32 := ofF (findN (awP (aQ a) lv sl cr (a 54) k y) (2 ^ sl) 0) (fun s => nI s) (if y = -1 then awN (aQ a) lv sl cr (a 54) k (2 ^ sl) else -1)
abbrev okAw (tn : Nat) (k y : Int32) : Prop := (nI 0 ≤ k ∧ k ≤ nI tn) ∧ -1 ≤ y
theorem vb2 {c : Bool} (h : ¬ (if c = true then (1 : Int32) else 0) = 0) : c = true := Decidable.not_not.mp (fun z => h (one_ne.mpr z))
set_option maxHeartbeats 400000 in
theorem con_awake (d : Nat) (v : Nat → Int32) (a : Nat → Nat → Int32) (b : Nat → Nat → Int64) (lv sp sl cr : Nat) (I : MI v a lv sp sl cr) (hwf : wf3 a lv) (tn : Nat) (ht : v 69 = nI tn) (ht2 : tn ≤ 20) (p y : Int32) (hd : 8 ≤ d) : Con mX9_awake d [.ref 0, .int p, .int y] (mW v a b) (fun r W' => ∃ v' a', W' = mW v' a' b ∧ Qs v v' a a' ∧ r = some (.int (if okAw tn p y then qAwake a lv sl cr p.toNatClampNeg y else -1))) := by
  obtain ⟨hlv, hlv2, hsp, hsp1, hsp2, hsl, hsl2, hcr, hcr2⟩ := id I
  refine Con.of (by decide) (Nat.le_of_ble_eq_true rfl) ?_
  by_cases hok : okAw tn p y
  · simp only [if_pos hok]
    obtain ⟨hp, hy⟩ := hok
    have hv : px_vb p (tn + 1) = true := (px_inR (n := tn + 1) (by omega) (by omega)).mp hp
    obtain ⟨k, hk, rfl⟩ := px_vb_ex hv (by omega)
    rw [nI_clamp (show k < 2 ^ 31 by omega)]
    have hpw := pow_le hsl2
    have q1 : (v 69) = (nI tn) := ht
    refine XG.blk tX9_awake_ok 0 4 (pc' := 6) (pl' := [some (.ref 0), some (.int (nI k)), some (.int y), none, none]) (st' := [(.int (v 69)), (.int (nI 0)), (.int (nI k))]) (W1 := (mW v a b)) (bs := []) rfl rfl rfl ?_
    simp only [q1]
    refine XG.callSp (r := some (.int (if (nI 0) ≤ (nI k) ∧ (nI k) ≤ (nI tn) then 1 else 0))) eX9_awake_6 kl_X9_331 (con_in (d - 1) (nI k) (nI 0) (nI tn)) (px_fitS (by omega)) rfl rfl rfl rfl (Nat.le_of_ble_eq_true rfl) ?_
    refine XG.br eX9_awake_9 (P := (if (nI 0) ≤ (nI k) ∧ (nI k) ≤ (nI tn) then 1 else 0) = 0) (r := []) rfl (tgt := 17) (by decide) (fun h9 => ?_) (fun h9 => ?_)
    · exfalso
      first | exact (one_ne.mp h9) hp | exact h14 hy
    · skip
      refine XG.blk tX9_awake_ok 6 2 (pc' := 14) (pl' := [some (.ref 0), some (.int (nI k)), some (.int y), none, none]) (st' := [(.int (-1)), (.int y)]) (W1 := (mW v a b)) (bs := []) rfl rfl rfl ?_
      refine XG.br eX9_awake_14 (P := (-1) ≤ y) (r := []) rfl (tgt := 19) (by decide) (fun h14 => ?_) (fun h14 => ?_)
      · skip
        refine XG.blk tX9_awake_ok 11 1 (pc' := 20) (pl' := [some (.ref 0), some (.int (nI k)), some (.int y), none, none]) (st' := [(.ref 0)]) (W1 := (mW v a b)) (bs := []) rfl rfl rfl ?_
        refine XG.callV0 eX9_awake_20 kl_X9_400 (con_copQ (d - 1) v a b lv sp sl cr I) (px_fitS (by omega)) rfl rfl rfl (Nat.le_of_ble_eq_true rfl) (fun r9 W9 hp9 hl9 => ?_)
        obtain ⟨rfl, rfl⟩ := hp9
        obtain ⟨v0, hv0⟩ : ∃ z, z = vQ v a lv 0 := ⟨_, rfl⟩
        obtain ⟨a0, ha0⟩ : ∃ z, z = aQ a := ⟨_, rfl⟩
        rw [← hv0, ← ha0]
        have hK9 : K v0 a0 (a 54) (a 60) v0 a0 := by rw [hv0, ha0]; exact kQ
        have I0 : MI v0 a0 lv sp sl cr := by rw [hv0, ha0]; exact I
        have hw3 : wf3 a0 lv := by rw [ha0]; exact wf3_Q hwf
        have hlv0 := I0.1
        refine XG.blk tX9_awake_ok 13 4 (pc' := 28) (pl' := [some (.ref 0), some (.int (nI k)), some (.int y), some (.int (nI 0)), some (.int (nI 0))]) (st' := []) (W1 := (mW v0 a0 b)) (bs := []) rfl rfl rfl ?_
        obtain ⟨-, -, hsp, -, -, hsl, -, hcr, -⟩ := id I0
        obtain ⟨RS, hRS⟩ : ∃ z, z = findN (awP a0 lv sl cr (a 54) k y) (2 ^ sl) 0 := ⟨_, rfl⟩
        have eQ : qAwake a lv sl cr k y = ofF RS (fun s => nI s) (if y = -1 then (awN a0 lv sl cr (a 54) k (2 ^ sl)) else -1) := by unfold qAwake; rw [hRS, ← ha0]
        refine px_for (2 ^ sl) (fun j => ∀ (r w v9 : Nat → Int32) (a9 : Nat → Nat → Int32) (hK9 : K v0 a0 r w v9 a9) (hSO : SO (a 54) sl r) (hr : findN (awP a0 lv sl cr (a 54) k y) (2 ^ sl - j) j = RS), XG mX9_awake _ 0 0 28 [some (.ref 0), some (.int (nI k)), some (.int y), some (.int (awN a0 lv sl cr (a 54) k j)), some (.int (nI j))] [] (mW v9 a9 b)) ?_ ?_ 0 (Nat.zero_le _) _ _ v0 a0 hK9 SO.rf (by rw [Nat.sub_zero]; exact hRS.symm)
        · intro r w v9 a9 hK9 hSO hr
          have hlv9 := (hK9.MI I0).1
          have q2 : (v9 18) = (nI lv) := hlv9
          have q3 : (a9 24) = (a0 24) := hK9.2.1 24 (by decide)
          have q4 : (nI lv).toNatClampNeg = lv := nI_clamp (by omega)
          have q5 : ((a0 24) lv) = (nI sl) := hsl
          have q6 : ((nI 1) <<< ((nI sl) &&& 31)) = (nI (2 ^ sl)) := sh_pow hsl2
          refine XG.blk tX9_awake_ok 17 8 (pc' := 41) (pl' := [some (.ref 0), some (.int (nI k)), some (.int y), some (.int (awN a0 lv sl cr (a 54) k (2 ^ sl))), some (.int (nI (2 ^ sl)))]) (st' := [(.int ((nI 1) <<< (((a9 24) (v9 18).toNatClampNeg) &&& 31))), (.int (nI (2 ^ sl)))]) (W1 := (mW v9 a9 b)) (bs := [px_vb (v9 18) 2]) rfl rfl (by (try simp only [q2, q3, q4, q5, q6]); exact (px_all (px_vbN (by omega) (by decide)) rfl)) ?_
          simp only [q2, q3, q4, q5, q6]
          refine XG.br eX9_awake_41 (P := (nI (2 ^ sl)) ≤ (nI (2 ^ sl))) (r := []) rfl (tgt := 74) (by decide) (fun h41 => ?_) (fun h41 => ?_)
          · skip
            have g41 : (2 ^ sl) ≤ (2 ^ sl) := (nI_leI (a := (2 ^ sl)) (b := (2 ^ sl)) (by omega) (by omega)).mp h41
            refine XG.blk tX9_awake_ok 40 2 (pc' := 76) (pl' := [some (.ref 0), some (.int (nI k)), some (.int y), some (.int (awN a0 lv sl cr (a 54) k (2 ^ sl))), some (.int (nI (2 ^ sl)))]) (st' := [(.int (-1)), (.int y)]) (W1 := (mW v9 a9 b)) (bs := []) rfl rfl rfl ?_
            refine XG.br eX9_awake_76 (P := ¬ y = (-1)) (r := []) rfl (tgt := 83) (by decide) (fun h76 => ?_) (fun h76 => ?_)
            · skip
              refine XG.blk tX9_awake_ok 45 1 (pc' := 84) (pl' := [some (.ref 0), some (.int (nI k)), some (.int y), some (.int (awN a0 lv sl cr (a 54) k (2 ^ sl))), some (.int (nI (2 ^ sl)))]) (st' := [(.int (-1))]) (W1 := (mW v9 a9 b)) (bs := []) rfl rfl rfl ?_
              refine XS.iret eX9_awake_84 rfl rfl ?_
              exact ⟨_, _, rfl, (Qs.c hv0 ha0).tr (Qs.K hK9), by rw [Nat.sub_self] at hr; rw [eQ, ← hr, if_neg h76] <;> rfl⟩
            · skip
              have h76 := Decidable.not_not.mp h76
              refine XG.blk tX9_awake_ok 43 1 (pc' := 80) (pl' := [some (.ref 0), some (.int (nI k)), some (.int y), some (.int (awN a0 lv sl cr (a 54) k (2 ^ sl))), some (.int (nI (2 ^ sl)))]) (st' := [(.int (awN a0 lv sl cr (a 54) k (2 ^ sl)))]) (W1 := (mW v9 a9 b)) (bs := []) rfl rfl rfl ?_
              refine XG.goto eX9_awake_80 (tgt := 84) (by decide) ?_
              refine XS.iret eX9_awake_84 rfl rfl ?_
              exact ⟨_, _, rfl, (Qs.c hv0 ha0).tr (Qs.K hK9), by rw [Nat.sub_self] at hr; rw [eQ, ← hr, if_pos h76] <;> rfl⟩
          · exfalso
            have g41 : ¬ (2 ^ sl) ≤ (2 ^ sl) := (fun z => h41 ((nI_leI (a := (2 ^ sl)) (b := (2 ^ sl)) (by omega) (by omega)).mpr z))
            omega
        · intro j hj ihj r w v9 a9 hK9 hSO hr
          have hlv9 := (hK9.MI I0).1
          rw [show 2 ^ sl - j = (2 ^ sl - (j + 1)) + 1 by omega] at hr
          simp only [findN] at hr
          have q7 : (v9 18) = (nI lv) := hlv9
          have q8 : (a9 24) = (a0 24) := hK9.2.1 24 (by decide)
          have q9 : (nI lv).toNatClampNeg = lv := nI_clamp (by omega)
          have q10 : ((a0 24) lv) = (nI sl) := hsl
          have q11 : ((nI 1) <<< ((nI sl) &&& 31)) = (nI (2 ^ sl)) := sh_pow hsl2
          refine XG.blk tX9_awake_ok 17 8 (pc' := 41) (pl' := [some (.ref 0), some (.int (nI k)), some (.int y), some (.int (awN a0 lv sl cr (a 54) k j)), some (.int (nI j))]) (st' := [(.int ((nI 1) <<< (((a9 24) (v9 18).toNatClampNeg) &&& 31))), (.int (nI j))]) (W1 := (mW v9 a9 b)) (bs := [px_vb (v9 18) 2]) rfl rfl (by (try simp only [q7, q8, q9, q10, q11]); exact (px_all (px_vbN (by omega) (by decide)) rfl)) ?_
          simp only [q7, q8, q9, q10, q11]
          refine XG.br eX9_awake_41 (P := (nI (2 ^ sl)) ≤ (nI j)) (r := []) rfl (tgt := 74) (by decide) (fun h41 => ?_) (fun h41 => ?_)
          · exfalso
            have g41 : (2 ^ sl) ≤ j := (nI_leI (a := (2 ^ sl)) (b := j) (by omega) (by omega)).mp h41
            omega
          · skip
            have g41 : ¬ (2 ^ sl) ≤ j := (fun z => h41 ((nI_leI (a := (2 ^ sl)) (b := j) (by omega) (by omega)).mpr z))
            refine XG.blk tX9_awake_ok 26 3 (pc' := 48) (pl' := [some (.ref 0), some (.int (nI k)), some (.int y), some (.int (awN a0 lv sl cr (a 54) k j)), some (.int (nI j))]) (st' := [(.int (nI k)), (.int (nI j)), (.ref 0)]) (W1 := (mW v9 a9 b)) (bs := []) rfl rfl rfl ?_
            refine XG.callV0 eX9_awake_48 kl_X9_464 (con_mbK (d - 1) v0 v9 a0 a9 b r _ hK9 lv sp sl cr I0 hw3 (nI j) k (by omega) (a 54) hSO (by omega)) (px_fitS (by omega)) rfl rfl rfl (Nat.le_of_ble_eq_true rfl) (fun r9 W9 hp9 hl9 => ?_)
            obtain ⟨v21, a21, rfl, hK21, rfl⟩ := hp9
            have hlv21 := (hK21.MI I0).1
            refine XG.br eX9_awake_51 (P := ¬ (if mbF a0 lv sl cr (a 54) k (nI j) = true then 1 else 0) = 0) (r := []) rfl (tgt := 57) (by decide) (fun h51 => ?_) (fun h51 => ?_)
            · skip
              refine XG.blk tX9_awake_ok 32 2 (pc' := 59) (pl' := [some (.ref 0), some (.int (nI k)), some (.int y), some (.int (awN a0 lv sl cr (a 54) k j)), some (.int (nI j))]) (st' := [(.int y), (.int (awN a0 lv sl cr (a 54) k j))]) (W1 := (mW v21 a21 b)) (bs := []) rfl rfl rfl ?_
              refine XG.br eX9_awake_59 (P := ¬ (awN a0 lv sl cr (a 54) k j) = y) (r := []) rfl (tgt := 65) (by decide) (fun h59 => ?_) (fun h59 => ?_)
              · skip
                have q12 : ((nI j) + (nI 1)) = (nI (j + 1)) := px_eadd rfl rfl
                refine XG.blk tX9_awake_ok 37 2 (pc' := 71) (pl' := [some (.ref 0), some (.int (nI k)), some (.int y), some (.int ((awN a0 lv sl cr (a 54) k j) + (nI 1))), some (.int ((nI j) + (nI 1)))]) (st' := []) (W1 := (mW v21 a21 b)) (bs := []) rfl rfl rfl ?_
                simp only [q12]
                refine XG.goto eX9_awake_71 (tgt := 28) (by decide) ?_
                rw [if_neg (show ¬ (awP a0 lv sl cr (a 54) k y) j = true by unfold awP; rw [vb2 h51, decide_eq_false h59]; decide)] at hr
                rw [show (awN a0 lv sl cr (a 54) k (j + 1)) = (awN a0 lv sl cr (a 54) k j) + nI 1 from if_pos (vb2 h51)] at ihj
                exact ihj _ _ v21 a21 hK21 saF_SO hr
              · skip
                have h59 := Decidable.not_not.mp h59
                refine XG.blk tX9_awake_ok 35 1 (pc' := 64) (pl' := [some (.ref 0), some (.int (nI k)), some (.int y), some (.int (awN a0 lv sl cr (a 54) k j)), some (.int (nI j))]) (st' := [(.int (nI j))]) (W1 := (mW v21 a21 b)) (bs := []) rfl rfl rfl ?_
                refine XS.iret eX9_awake_64 rfl rfl ?_
                exact ⟨_, _, rfl, (Qs.c hv0 ha0).tr (Qs.K hK21), by rw [if_pos (show (awP a0 lv sl cr (a 54) k y) j = true by unfold awP; rw [vb2 h51, decide_eq_true h59]; rfl)] at hr; rw [eQ, ← hr] <;> rfl⟩
            · skip
              have h51 := Decidable.not_not.mp h51
              refine XG.goto eX9_awake_54 (tgt := 68) (by decide) ?_
              have q13 : ((nI j) + (nI 1)) = (nI (j + 1)) := px_eadd rfl rfl
              refine XG.blk tX9_awake_ok 38 1 (pc' := 71) (pl' := [some (.ref 0), some (.int (nI k)), some (.int y), some (.int (awN a0 lv sl cr (a 54) k j)), some (.int ((nI j) + (nI 1)))]) (st' := []) (W1 := (mW v21 a21 b)) (bs := []) rfl rfl rfl ?_
              simp only [q13]
              refine XG.goto eX9_awake_71 (tgt := 28) (by decide) ?_
              have hm9 : mbF a0 lv sl cr (a 54) k (nI j) = false := by simpa using one_ne.mp h51
              rw [if_neg (show ¬ (awP a0 lv sl cr (a 54) k y) j = true by simp [awP, hm9])] at hr
              rw [show (awN a0 lv sl cr (a 54) k (j + 1)) = (awN a0 lv sl cr (a 54) k j) from if_neg (by rw [hm9]; decide)] at ihj
              exact ihj _ _ v21 a21 hK21 saF_SO hr
      · exfalso
        first | exact (one_ne.mp h9) hp | exact h14 hy
  · simp only [if_neg hok]
    have q1 : (v 69) = (nI tn) := ht
    refine XG.blk tX9_awake_ok 0 4 (pc' := 6) (pl' := [some (.ref 0), some (.int p), some (.int y), none, none]) (st' := [(.int (v 69)), (.int (nI 0)), (.int p)]) (W1 := (mW v a b)) (bs := []) rfl rfl rfl ?_
    simp only [q1]
    refine XG.callSp (r := some (.int (if (nI 0) ≤ p ∧ p ≤ (nI tn) then 1 else 0))) eX9_awake_6 kl_X9_331 (con_in (d - 1) p (nI 0) (nI tn)) (px_fitS (by omega)) rfl rfl rfl rfl (Nat.le_of_ble_eq_true rfl) ?_
    refine XG.br eX9_awake_9 (P := (if (nI 0) ≤ p ∧ p ≤ (nI tn) then 1 else 0) = 0) (r := []) rfl (tgt := 17) (by decide) (fun h9 => ?_) (fun h9 => ?_)
    · skip
      refine XG.blk tX9_awake_ok 9 1 (pc' := 18) (pl' := [some (.ref 0), some (.int p), some (.int y), none, none]) (st' := [(.int (-1))]) (W1 := (mW v a b)) (bs := []) rfl rfl rfl ?_
      refine XS.iret eX9_awake_18 rfl rfl ?_
      exact ⟨_, _, rfl, Qs.rf, rfl⟩
    · skip
      refine XG.blk tX9_awake_ok 6 2 (pc' := 14) (pl' := [some (.ref 0), some (.int p), some (.int y), none, none]) (st' := [(.int (-1)), (.int y)]) (W1 := (mW v a b)) (bs := []) rfl rfl rfl ?_
      refine XG.br eX9_awake_14 (P := (-1) ≤ y) (r := []) rfl (tgt := 19) (by decide) (fun h14 => ?_) (fun h14 => ?_)
      · skip
        exact absurd ⟨Decidable.not_not.mp (fun z => h9 (one_ne.mpr z)), h14⟩ hok
      · skip
        refine XG.blk tX9_awake_ok 9 1 (pc' := 18) (pl' := [some (.ref 0), some (.int p), some (.int y), none, none]) (st' := [(.int (-1))]) (W1 := (mW v a b)) (bs := []) rfl rfl rfl ?_
        refine XS.iret eX9_awake_18 rfl rfl ?_
        exact ⟨_, _, rfl, Qs.rf, rfl⟩
