/-! the reference: who sleeps alone; who is missed most -/
/-- the sleepers of s sleep, the others are awake; else the row is r -/
def saF (r : Nat → Int32) (n : Nat) (s : Int32) : Nat → Int32 := fun j => if 6 ≤ j ∧ j < 6 + n then (if ((s >>> (nI (j - 6) &&& 31)) &&& nI 1) = nI 1 then nI 0 else nI 1) else r j
theorem saF_0 (r : Nat → Int32) (s : Int32) : saF r 0 s = r := by funext j; unfold saF; rw [if_neg (by omega)]
theorem saF_s (r : Nat → Int32) (n : Nat) (s : Int32) {y : Int32} (h : (if ((s >>> (nI n &&& 31)) &&& nI 1) = nI 1 then nI 0 else nI 1) = y) : upd (saF r n s) (6 + n) y = saF r (n + 1) s := by
  funext j; simp only [saF, upd]
  by_cases e : j = 6 + n
  · subst e; rw [if_pos rfl, if_pos (by omega), show 6 + n - 6 = n by omega, h]
  · rw [if_neg e]
    by_cases h2 : 6 ≤ j ∧ j < 6 + n
    · rw [if_pos h2, if_pos (show 6 ≤ j ∧ j < 6 + (n + 1) by omega)]
    · rw [if_neg h2, if_neg (show ¬ (6 ≤ j ∧ j < 6 + (n + 1)) by omega)]
def SO (r0 : Nat → Int32) (n : Nat) (r : Nat → Int32) : Prop := ∀ j, ¬ (6 ≤ j ∧ j < 6 + n) → r j = r0 j
theorem saF_SO {r0 : Nat → Int32} {n : Nat} {s : Int32} : SO r0 n (saF r0 n s) := fun j hj => if_neg hj
theorem SO.rf {r0 : Nat → Int32} {n : Nat} : SO r0 n r0 := fun _ _ => rfl
theorem saF_eq {r0 r : Nat → Int32} {n : Nat} (h : SO r0 n r) (s : Int32) : saF r n s = saF r0 n s := by
  funext j; unfold saF
  by_cases h2 : 6 ≤ j ∧ j < 6 + n
  · rw [if_pos h2, if_pos h2]
  · rw [if_neg h2, if_neg h2, h j h2]
set_option maxHeartbeats 400000 in
theorem con_saK (d : Nat) (v0 v9 : Nat → Int32) (a0 a9 : Nat → Nat → Int32) (b : Nat → Nat → Int64) (r w : Nat → Int32) (hK9 : K v0 a0 r w v9 a9) (lv sp sl cr : Nat) (I0 : MI v0 a0 lv sp sl cr) (s : Int32) (r0 : Nat → Int32) (hSO : SO r0 sl r) : Con mX9_sleepAlone d [.ref 0, .int s] (mW v9 a9 b) (fun q W' => ∃ v' a', W' = mW v' a' b ∧ K v0 a0 (saF r0 sl s) w v' a' ∧ q = none) := by
  obtain ⟨hlv0, hlv2, hsp, hsp1, hsp2, hsl, hsl2, hcr, hcr2⟩ := id I0
  have hlv9 := (hK9.MI I0).1
  refine Con.of (by decide) (Nat.le_of_ble_eq_true rfl) ?_
  refine XG.blk tX9_sleepAlone_ok 0 2 (pc' := 2) (pl' := [some (.ref 0), some (.int s), some (.int (nI 0))]) (st' := []) (W1 := (mW v9 a9 b)) (bs := []) rfl rfl rfl ?_
  refine px_for sl (fun i => ∀ (v9 : Nat → Int32) (a9 : Nat → Nat → Int32) (hK9 : K v0 a0 (saF r i s) w v9 a9), XG mX9_sleepAlone _ 0 0 2 [some (.ref 0), some (.int s), some (.int (nI i))] [] (mW v9 a9 b)) ?_ ?_ 0 (by omega) v9 a9 (by rw [saF_0]; exact hK9)
  · intro v9 a9 hK9
    have hlv9 := (hK9.MI I0).1
    have q1 : (v9 18) = (nI lv) := hlv9
    have q2 : (a9 24) = (a0 24) := hK9.2.1 24 (by decide)
    have q3 : (nI lv).toNatClampNeg = lv := nI_clamp (by omega)
    have q4 : ((a0 24) lv) = (nI sl) := hsl
    refine XG.blk tX9_sleepAlone_ok 2 6 (pc' := 12) (pl' := [some (.ref 0), some (.int s), some (.int (nI sl))]) (st' := [(.int ((a9 24) (v9 18).toNatClampNeg)), (.int (nI sl))]) (W1 := (mW v9 a9 b)) (bs := [px_vb (v9 18) 2]) rfl rfl (by (try simp only [q1, q2, q3, q4]); exact (px_all (px_vbN (by omega) (by decide)) rfl)) ?_
    simp only [q1, q2, q3, q4]
    refine XG.br eX9_sleepAlone_12 (P := (nI sl) ≤ (nI sl)) (r := []) rfl (tgt := 44) (by decide) (fun h12 => ?_) (fun h12 => ?_)
    · skip
      have g12 : sl ≤ sl := (nI_leI (a := sl) (b := sl) (by omega) (by omega)).mp h12
      refine XS.vret eX9_sleepAlone_44 rfl ?_
      exact ⟨_, _, rfl, by rw [← saF_eq hSO]; exact hK9, rfl⟩
    · exfalso
      have g12 : ¬ sl ≤ sl := (fun z => h12 ((nI_leI (a := sl) (b := sl) (by omega) (by omega)).mpr z))
      omega
  · intro i hi ihi v9 a9 hK9
    have hlv9 := (hK9.MI I0).1
    have q5 : (v9 18) = (nI lv) := hlv9
    have q6 : (a9 24) = (a0 24) := hK9.2.1 24 (by decide)
    have q7 : (nI lv).toNatClampNeg = lv := nI_clamp (by omega)
    have q8 : ((a0 24) lv) = (nI sl) := hsl
    refine XG.blk tX9_sleepAlone_ok 2 6 (pc' := 12) (pl' := [some (.ref 0), some (.int s), some (.int (nI i))]) (st' := [(.int ((a9 24) (v9 18).toNatClampNeg)), (.int (nI i))]) (W1 := (mW v9 a9 b)) (bs := [px_vb (v9 18) 2]) rfl rfl (by (try simp only [q5, q6, q7, q8]); exact (px_all (px_vbN (by omega) (by decide)) rfl)) ?_
    simp only [q5, q6, q7, q8]
    refine XG.br eX9_sleepAlone_12 (P := (nI sl) ≤ (nI i)) (r := []) rfl (tgt := 44) (by decide) (fun h12 => ?_) (fun h12 => ?_)
    · exfalso
      have g12 : sl ≤ i := (nI_leI (a := sl) (b := i) (by omega) (by omega)).mp h12
      omega
    · skip
      have g12 : ¬ sl ≤ i := (fun z => h12 ((nI_leI (a := sl) (b := i) (by omega) (by omega)).mpr z))
      have q9 : ((nI 6) + (nI i)) = (nI (6 + i)) := px_eadd rfl rfl
      refine XG.blk tX9_sleepAlone_ok 9 11 (pc' := 29) (pl' := [some (.ref 0), some (.int s), some (.int (nI i))]) (st' := [(.int (nI 1)), (.int ((s >>> ((nI i) &&& 31)) &&& (nI 1))), (.int ((nI 6) + (nI i))), (.ref 38)]) (W1 := (mW v9 a9 b)) (bs := []) rfl rfl rfl ?_
      simp only [q9]
      refine XG.br eX9_sleepAlone_29 (P := ¬ ((s >>> ((nI i) &&& 31)) &&& (nI 1)) = (nI 1)) (r := [(.int (nI (6 + i))), (.ref 38)]) rfl (tgt := 36) (by decide) (fun h29 => ?_) (fun h29 => ?_)
      · skip
        have q10 : (a9 55) = (saF r i s) := hK9.2.2.1
        have q11 : (nI (6 + i)).toNatClampNeg = (6 + i) := nI_clamp (by omega)
        have q12 : ((nI i) + (nI 1)) = (nI (i + 1)) := px_eadd rfl rfl
        refine XG.blk tX9_sleepAlone_ok 23 3 (pc' := 41) (pl' := [some (.ref 0), some (.int s), some (.int ((nI i) + (nI 1)))]) (st' := []) (W1 := (mW v9 (va_up a9 55 (upd (a9 55) (nI (6 + i)).toNatClampNeg (nI 1))) b)) (bs := [px_vb (nI (6 + i)) 32]) rfl rfl (by (try simp only [q10, q11, q12]); exact (px_all (px_vbN (by omega) (by decide)) rfl)) ?_
        simp only [q10, q11, q12]
        refine XG.goto eX9_sleepAlone_41 (tgt := 2) (by decide) ?_
        have eS := saF_s r i s (if_neg h29)
        rw [← eS] at ihi
        exact ihi v9 (va_up a9 55 (upd (saF r i s) (6 + i) (nI 1))) (K.row hK9 (upd (saF r i s) (6 + i) (nI 1)))
      · skip
        have h29 := Decidable.not_not.mp h29
        refine XG.blk tX9_sleepAlone_ok 21 1 (pc' := 33) (pl' := [some (.ref 0), some (.int s), some (.int (nI i))]) (st' := [(.int (nI 0)), (.int (nI (6 + i))), (.ref 38)]) (W1 := (mW v9 a9 b)) (bs := []) rfl rfl rfl ?_
        refine XG.goto eX9_sleepAlone_33 (tgt := 37) (by decide) ?_
        have q13 : (a9 55) = (saF r i s) := hK9.2.2.1
        have q14 : (nI (6 + i)).toNatClampNeg = (6 + i) := nI_clamp (by omega)
        have q15 : ((nI i) + (nI 1)) = (nI (i + 1)) := px_eadd rfl rfl
        refine XG.blk tX9_sleepAlone_ok 24 2 (pc' := 41) (pl' := [some (.ref 0), some (.int s), some (.int ((nI i) + (nI 1)))]) (st' := []) (W1 := (mW v9 (va_up a9 55 (upd (a9 55) (nI (6 + i)).toNatClampNeg (nI 0))) b)) (bs := [px_vb (nI (6 + i)) 32]) rfl rfl (by (try simp only [q13, q14, q15]); exact (px_all (px_vbN (by omega) (by decide)) rfl)) ?_
        simp only [q13, q14, q15]
        refine XG.goto eX9_sleepAlone_41 (tgt := 2) (by decide) ?_
        have eS := saF_s r i s (if_pos h29)
        rw [← eS] at ihi
        exact ihi v9 (va_up a9 55 (upd (saF r i s) (6 + i) (nI 0))) (K.row hK9 (upd (saF r i s) (6 + i) (nI 0)))
def msF (a0 : Nat → Nat → Int32) (lv sp sl cr : Nat) (r0 : Nat → Int32) (al : Int32) : Nat → Int32 × Int32 → Int32 × Int32 := fun x p => if ((al >>> (nI x &&& 31)) &&& nI 1) = 0 then p else if p.1 < 0 ∨ lR a0 lv sp sl cr (saF r0 sl (al &&& ((nI 1 <<< (nI x &&& 31)) ^^^ (-1)))) < p.2 then (nI x, lR a0 lv sp sl cr (saF r0 sl (al &&& ((nI 1 <<< (nI x &&& 31)) ^^^ (-1))))) else p
def msR (a : Nat → Nat → Int32) (lv sp sl cr : Nat) : Int32 × Int32 := itN (msF (aQ a) lv sp sl cr (a 54) (itN (asleepF (a 54) (a 35 lv)) 0 sl)) ((-2), (-2)) sl
def qMissed (a : Nat → Nat → Int32) (lv sp sl cr : Nat) (what : Int32) : Int32 := if nI 0 ≤ what ∧ what ≤ nI 1 then (if what = 0 then (msR a lv sp sl cr).1 else (msR a lv sp sl cr).2) else -1
set_option maxHeartbeats 400000 in
theorem con_missed (d : Nat) (v : Nat → Int32) (a : Nat → Nat → Int32) (b : Nat → Nat → Int64) (lv sp sl cr : Nat) (I : MI v a lv sp sl cr) (hwf : wf3 a lv) (what : Int32) (hd : 8 ≤ d) : Con mX9_missed d [.ref 0, .int what] (mW v a b) (fun r W' => ∃ v' a', W' = mW v' a' b ∧ Qs v v' a a' ∧ r = some (.int (qMissed a lv sp sl cr what))) := by
  obtain ⟨hlv, hlv2, hsp, hsp1, hsp2, hsl, hsl2, hcr, hcr2⟩ := id I
  refine Con.of (by decide) (Nat.le_of_ble_eq_true rfl) ?_
  refine XG.blk tX9_missed_ok 0 3 (pc' := 3) (pl' := [some (.ref 0), some (.int what), none, none, none, none, none]) (st' := [(.int (nI 1)), (.int (nI 0)), (.int what)]) (W1 := (mW v a b)) (bs := []) rfl rfl rfl ?_
  refine XG.callSp (r := some (.int (if (nI 0) ≤ what ∧ what ≤ (nI 1) then 1 else 0))) eX9_missed_3 kl_X9_331 (con_in (d - 1) what (nI 0) (nI 1)) (px_fitS (by omega)) rfl rfl rfl rfl (Nat.le_of_ble_eq_true rfl) ?_
  refine XG.br eX9_missed_6 (P := ¬ (if (nI 0) ≤ what ∧ what ≤ (nI 1) then 1 else 0) = 0) (r := []) rfl (tgt := 11) (by decide) (fun h6 => ?_) (fun h6 => ?_)
  · skip
    refine XG.blk tX9_missed_ok 7 1 (pc' := 12) (pl' := [some (.ref 0), some (.int what), none, none, none, none, none]) (st' := [(.ref 0)]) (W1 := (mW v a b)) (bs := []) rfl rfl rfl ?_
    refine XG.callV0 eX9_missed_12 kl_X9_400 (con_copQ (d - 1) v a b lv sp sl cr I) (px_fitS (by omega)) rfl rfl rfl (Nat.le_of_ble_eq_true rfl) (fun r9 W9 hp9 hl9 => ?_)
    obtain ⟨rfl, rfl⟩ := hp9
    obtain ⟨v0, hv0⟩ : ∃ z, z = vQ v a lv 0 := ⟨_, rfl⟩
    obtain ⟨a0, ha0⟩ : ∃ z, z = aQ a := ⟨_, rfl⟩
    rw [← hv0, ← ha0]
    have hK9 : K v0 a0 (a 54) (a 60) v0 a0 := by rw [hv0, ha0]; exact kQ
    have I0 : MI v0 a0 lv sp sl cr := by rw [hv0, ha0]; exact I
    have hw3 : wf3 a0 lv := by rw [ha0]; exact wf3_Q hwf
    have hlv0 := I0.1
    refine XG.blk tX9_missed_ok 9 1 (pc' := 16) (pl' := [some (.ref 0), some (.int what), none, none, none, none, none]) (st' := [(.ref 0)]) (W1 := (mW v0 a0 b)) (bs := []) rfl rfl rfl ?_
    refine XG.callV0 eX9_missed_16 kl_X9_421 (con_abK (d - 1) v0 v0 a0 a0 b (a 54) _ hK9 lv sp sl cr I0 (by omega)) (px_fitS (by omega)) rfl rfl rfl (Nat.le_of_ble_eq_true rfl) (fun r9 W9 hp9 hl9 => ?_)
    obtain ⟨rfl, rfl⟩ := hp9
    refine XG.blk tX9_missed_ok 11 7 (pc' := 30) (pl' := [some (.ref 0), some (.int what), some (.int (itN (asleepF (a 54) (a0 35 lv)) 0 sl)), some (.int (-2)), some (.int (-2)), some (.int (nI 0)), none]) (st' := []) (W1 := (mW v0 a0 b)) (bs := []) rfl rfl rfl ?_
    obtain ⟨-, -, hsp, -, -, hsl, -, hcr, -⟩ := id I0
    have eR : msR a lv sp sl cr = (itN (msF a0 lv sp sl cr (a 54) (itN (asleepF (a 54) (a0 35 lv)) 0 sl)) ((-2), (-2)) sl) := by unfold msR; rw [← ha0, show a0 35 = a 35 from ha0 ▸ rfl]
    refine px_for sl (fun i => ∀ (r w v9 : Nat → Int32) (a9 : Nat → Nat → Int32) (hK9 : K v0 a0 r w v9 a9) (hSO : SO (a 54) sl r), XG mX9_missed _ 0 0 30 [some (.ref 0), some (.int what), some (.int (itN (asleepF (a 54) (a0 35 lv)) 0 sl)), some (.int (itN (msF a0 lv sp sl cr (a 54) (itN (asleepF (a 54) (a0 35 lv)) 0 sl)) ((-2), (-2)) i).1), some (.int (itN (msF a0 lv sp sl cr (a 54) (itN (asleepF (a 54) (a0 35 lv)) 0 sl)) ((-2), (-2)) i).2), some (.int (nI i)), none] [] (mW v9 a9 b)) ?_ ?_ 0 (by omega) _ _ v0 a0 hK9 SO.rf
    · intro r w v9 a9 hK9 hSO
      have hlv9 := (hK9.MI I0).1
      have q1 : (v9 18) = (nI lv) := hlv9
      have q2 : (a9 24) = (a0 24) := hK9.2.1 24 (by decide)
      have q3 : (nI lv).toNatClampNeg = lv := nI_clamp (by omega)
      have q4 : ((a0 24) lv) = (nI sl) := hsl
      refine XG.blk tX9_missed_ok 18 6 (pc' := 41) (pl' := [some (.ref 0), some (.int what), some (.int (itN (asleepF (a 54) (a0 35 lv)) 0 sl)), some (.int (itN (msF a0 lv sp sl cr (a 54) (itN (asleepF (a 54) (a0 35 lv)) 0 sl)) ((-2), (-2)) sl).1), some (.int (itN (msF a0 lv sp sl cr (a 54) (itN (asleepF (a 54) (a0 35 lv)) 0 sl)) ((-2), (-2)) sl).2), some (.int (nI sl)), none]) (st' := [(.int ((a9 24) (v9 18).toNatClampNeg)), (.int (nI sl))]) (W1 := (mW v9 a9 b)) (bs := [px_vb (v9 18) 2]) rfl rfl (by (try simp only [q1, q2, q3, q4]); exact (px_all (px_vbN (by omega) (by decide)) rfl)) ?_
      simp only [q1, q2, q3, q4]
      refine XG.br eX9_missed_41 (P := (nI sl) ≤ (nI sl)) (r := []) rfl (tgt := 101) (by decide) (fun h41 => ?_) (fun h41 => ?_)
      · skip
        have g41 : sl ≤ sl := (nI_leI (a := sl) (b := sl) (by omega) (by omega)).mp h41
        refine XG.blk tX9_missed_ok 56 1 (pc' := 102) (pl' := [some (.ref 0), some (.int what), some (.int (itN (asleepF (a 54) (a0 35 lv)) 0 sl)), some (.int (itN (msF a0 lv sp sl cr (a 54) (itN (asleepF (a 54) (a0 35 lv)) 0 sl)) ((-2), (-2)) sl).1), some (.int (itN (msF a0 lv sp sl cr (a 54) (itN (asleepF (a 54) (a0 35 lv)) 0 sl)) ((-2), (-2)) sl).2), some (.int (nI sl)), none]) (st' := [(.int what)]) (W1 := (mW v9 a9 b)) (bs := []) rfl rfl rfl ?_
        refine XG.br eX9_missed_102 (P := ¬ what = 0) (r := []) rfl (tgt := 109) (by decide) (fun h102 => ?_) (fun h102 => ?_)
        · skip
          refine XG.blk tX9_missed_ok 60 1 (pc' := 111) (pl' := [some (.ref 0), some (.int what), some (.int (itN (asleepF (a 54) (a0 35 lv)) 0 sl)), some (.int (itN (msF a0 lv sp sl cr (a 54) (itN (asleepF (a 54) (a0 35 lv)) 0 sl)) ((-2), (-2)) sl).1), some (.int (itN (msF a0 lv sp sl cr (a 54) (itN (asleepF (a 54) (a0 35 lv)) 0 sl)) ((-2), (-2)) sl).2), some (.int (nI sl)), none]) (st' := [(.int (itN (msF a0 lv sp sl cr (a 54) (itN (asleepF (a 54) (a0 35 lv)) 0 sl)) ((-2), (-2)) sl).2)]) (W1 := (mW v9 a9 b)) (bs := []) rfl rfl rfl ?_
          refine XS.iret eX9_missed_111 rfl rfl ?_
          exact ⟨_, _, rfl, (Qs.c hv0 ha0).tr (Qs.K hK9), by unfold qMissed; rw [if_pos (Decidable.not_not.mp (fun z => h6 (one_ne.mpr z))), if_neg h102, eR]⟩
        · skip
          have h102 := Decidable.not_not.mp h102
          refine XG.blk tX9_missed_ok 58 1 (pc' := 106) (pl' := [some (.ref 0), some (.int what), some (.int (itN (asleepF (a 54) (a0 35 lv)) 0 sl)), some (.int (itN (msF a0 lv sp sl cr (a 54) (itN (asleepF (a 54) (a0 35 lv)) 0 sl)) ((-2), (-2)) sl).1), some (.int (itN (msF a0 lv sp sl cr (a 54) (itN (asleepF (a 54) (a0 35 lv)) 0 sl)) ((-2), (-2)) sl).2), some (.int (nI sl)), none]) (st' := [(.int (itN (msF a0 lv sp sl cr (a 54) (itN (asleepF (a 54) (a0 35 lv)) 0 sl)) ((-2), (-2)) sl).1)]) (W1 := (mW v9 a9 b)) (bs := []) rfl rfl rfl ?_
          refine XG.goto eX9_missed_106 (tgt := 111) (by decide) ?_
          refine XS.iret eX9_missed_111 rfl rfl ?_
          exact ⟨_, _, rfl, (Qs.c hv0 ha0).tr (Qs.K hK9), by unfold qMissed; rw [if_pos (Decidable.not_not.mp (fun z => h6 (one_ne.mpr z))), if_pos h102, eR]⟩
      · exfalso
        have g41 : ¬ sl ≤ sl := (fun z => h41 ((nI_leI (a := sl) (b := sl) (by omega) (by omega)).mpr z))
        omega
    · intro i hi ihi r w v9 a9 hK9 hSO
      have hlv9 := (hK9.MI I0).1
      have q5 : (v9 18) = (nI lv) := hlv9
      have q6 : (a9 24) = (a0 24) := hK9.2.1 24 (by decide)
      have q7 : (nI lv).toNatClampNeg = lv := nI_clamp (by omega)
      have q8 : ((a0 24) lv) = (nI sl) := hsl
      refine XG.blk tX9_missed_ok 18 6 (pc' := 41) (pl' := [some (.ref 0), some (.int what), some (.int (itN (asleepF (a 54) (a0 35 lv)) 0 sl)), some (.int (itN (msF a0 lv sp sl cr (a 54) (itN (asleepF (a 54) (a0 35 lv)) 0 sl)) ((-2), (-2)) i).1), some (.int (itN (msF a0 lv sp sl cr (a 54) (itN (asleepF (a 54) (a0 35 lv)) 0 sl)) ((-2), (-2)) i).2), some (.int (nI i)), none]) (st' := [(.int ((a9 24) (v9 18).toNatClampNeg)), (.int (nI i))]) (W1 := (mW v9 a9 b)) (bs := [px_vb (v9 18) 2]) rfl rfl (by (try simp only [q5, q6, q7, q8]); exact (px_all (px_vbN (by omega) (by decide)) rfl)) ?_
      simp only [q5, q6, q7, q8]
      refine XG.br eX9_missed_41 (P := (nI sl) ≤ (nI i)) (r := []) rfl (tgt := 101) (by decide) (fun h41 => ?_) (fun h41 => ?_)
      · exfalso
        have g41 : sl ≤ i := (nI_leI (a := sl) (b := i) (by omega) (by omega)).mp h41
        omega
      · skip
        have g41 : ¬ sl ≤ i := (fun z => h41 ((nI_leI (a := sl) (b := i) (by omega) (by omega)).mpr z))
        refine XG.blk tX9_missed_ok 25 5 (pc' := 50) (pl' := [some (.ref 0), some (.int what), some (.int (itN (asleepF (a 54) (a0 35 lv)) 0 sl)), some (.int (itN (msF a0 lv sp sl cr (a 54) (itN (asleepF (a 54) (a0 35 lv)) 0 sl)) ((-2), (-2)) i).1), some (.int (itN (msF a0 lv sp sl cr (a 54) (itN (asleepF (a 54) (a0 35 lv)) 0 sl)) ((-2), (-2)) i).2), some (.int (nI i)), none]) (st' := [(.int (((itN (asleepF (a 54) (a0 35 lv)) 0 sl) >>> ((nI i) &&& 31)) &&& (nI 1)))]) (W1 := (mW v9 a9 b)) (bs := []) rfl rfl rfl ?_
        refine XG.br eX9_missed_50 (P := ¬ (((itN (asleepF (a 54) (a0 35 lv)) 0 sl) >>> ((nI i) &&& 31)) &&& (nI 1)) = 0) (r := []) rfl (tgt := 56) (by decide) (fun h50 => ?_) (fun h50 => ?_)
        · skip
          refine XG.blk tX9_missed_ok 32 8 (pc' := 65) (pl' := [some (.ref 0), some (.int what), some (.int (itN (asleepF (a 54) (a0 35 lv)) 0 sl)), some (.int (itN (msF a0 lv sp sl cr (a 54) (itN (asleepF (a 54) (a0 35 lv)) 0 sl)) ((-2), (-2)) i).1), some (.int (itN (msF a0 lv sp sl cr (a 54) (itN (asleepF (a 54) (a0 35 lv)) 0 sl)) ((-2), (-2)) i).2), some (.int (nI i)), none]) (st' := [(.int ((itN (asleepF (a 54) (a0 35 lv)) 0 sl) &&& (((nI 1) <<< ((nI i) &&& 31)) ^^^ (-1)))), (.ref 0)]) (W1 := (mW v9 a9 b)) (bs := []) rfl rfl rfl ?_
          refine XG.callV0 eX9_missed_65 kl_X9_442 (con_saK (d - 1) v0 v9 a0 a9 b r _ hK9 lv sp sl cr I0 ((itN (asleepF (a 54) (a0 35 lv)) 0 sl) &&& (((nI 1) <<< ((nI i) &&& 31)) ^^^ (-1))) (a 54) hSO) (px_fitS (by omega)) rfl rfl rfl (Nat.le_of_ble_eq_true rfl) (fun r9 W9 hp9 hl9 => ?_)
          obtain ⟨v21, a21, rfl, hK21, rfl⟩ := hp9
          have hlv21 := (hK21.MI I0).1
          refine XG.blk tX9_missed_ok 41 1 (pc' := 69) (pl' := [some (.ref 0), some (.int what), some (.int (itN (asleepF (a 54) (a0 35 lv)) 0 sl)), some (.int (itN (msF a0 lv sp sl cr (a 54) (itN (asleepF (a 54) (a0 35 lv)) 0 sl)) ((-2), (-2)) i).1), some (.int (itN (msF a0 lv sp sl cr (a 54) (itN (asleepF (a 54) (a0 35 lv)) 0 sl)) ((-2), (-2)) i).2), some (.int (nI i)), none]) (st' := [(.ref 0)]) (W1 := (mW v21 a21 b)) (bs := []) rfl rfl rfl ?_
          refine XG.callV0 eX9_missed_69 kl_X9_427 (con_leK (d - 1) v0 v21 a0 a21 b (saF (a 54) sl ((itN (asleepF (a 54) (a0 35 lv)) 0 sl) &&& (((nI 1) <<< ((nI i) &&& 31)) ^^^ (-1)))) _ hK21 lv sp sl cr I0 hw3 (by omega)) (px_fitS (by omega)) rfl rfl rfl (Nat.le_of_ble_eq_true rfl) (fun r9 W9 hp9 hl9 => ?_)
          obtain ⟨v22, a22, rfl, hj22, rfl⟩ := hp9
          have hK22 := K.J hK21 hj22
          have hlv22 := (hK22.MI I0).1
          refine XG.blk tX9_missed_ok 43 2 (pc' := 75) (pl' := [some (.ref 0), some (.int what), some (.int (itN (asleepF (a 54) (a0 35 lv)) 0 sl)), some (.int (itN (msF a0 lv sp sl cr (a 54) (itN (asleepF (a 54) (a0 35 lv)) 0 sl)) ((-2), (-2)) i).1), some (.int (itN (msF a0 lv sp sl cr (a 54) (itN (asleepF (a 54) (a0 35 lv)) 0 sl)) ((-2), (-2)) i).2), some (.int (nI i)), some (.int (lR a0 lv sp sl cr (saF (a 54) sl ((itN (asleepF (a 54) (a0 35 lv)) 0 sl) &&& (((nI 1) <<< ((nI i) &&& 31)) ^^^ (-1))))))]) (st' := [(.int (itN (msF a0 lv sp sl cr (a 54) (itN (asleepF (a 54) (a0 35 lv)) 0 sl)) ((-2), (-2)) i).1)]) (W1 := (mW v22 a22 b)) (bs := []) rfl rfl rfl ?_
          refine XG.br eX9_missed_75 (P := (itN (msF a0 lv sp sl cr (a 54) (itN (asleepF (a 54) (a0 35 lv)) 0 sl)) ((-2), (-2)) i).1 < 0) (r := []) rfl (tgt := 88) (by decide) (fun h75 => ?_) (fun h75 => ?_)
          · skip
            have q9 : ((nI i) + (nI 1)) = (nI (i + 1)) := px_eadd rfl rfl
            refine XG.blk tX9_missed_ok 50 5 (pc' := 98) (pl' := [some (.ref 0), some (.int what), some (.int (itN (asleepF (a 54) (a0 35 lv)) 0 sl)), some (.int (nI i)), some (.int (lR a0 lv sp sl cr (saF (a 54) sl ((itN (asleepF (a 54) (a0 35 lv)) 0 sl) &&& (((nI 1) <<< ((nI i) &&& 31)) ^^^ (-1)))))), some (.int ((nI i) + (nI 1))), some (.int (lR a0 lv sp sl cr (saF (a 54) sl ((itN (asleepF (a 54) (a0 35 lv)) 0 sl) &&& (((nI 1) <<< ((nI i) &&& 31)) ^^^ (-1))))))]) (st' := []) (W1 := (mW v22 a22 b)) (bs := []) rfl rfl rfl ?_
            simp only [q9]
            refine XG.goto eX9_missed_98 (tgt := 30) (by decide) ?_
            rw [show (itN (msF a0 lv sp sl cr (a 54) (itN (asleepF (a 54) (a0 35 lv)) 0 sl)) ((-2), (-2)) (i + 1)) = (nI i, (lR a0 lv sp sl cr (saF (a 54) sl ((itN (asleepF (a 54) (a0 35 lv)) 0 sl) &&& ((nI 1 <<< (nI i &&& 31)) ^^^ (-1)))))) from (if_neg h50).trans (if_pos (Or.inl h75))] at ihi
            refine XG.weak (pl' := [some (.ref 0), some (.int what), some (.int (itN (asleepF (a 54) (a0 35 lv)) 0 sl)), some (.int (nI i, (lR a0 lv sp sl cr (saF (a 54) sl ((itN (asleepF (a 54) (a0 35 lv)) 0 sl) &&& ((nI 1 <<< (nI i &&& 31)) ^^^ (-1)))))).1), some (.int (nI i, (lR a0 lv sp sl cr (saF (a 54) sl ((itN (asleepF (a 54) (a0 35 lv)) 0 sl) &&& ((nI 1 <<< (nI i &&& 31)) ^^^ (-1)))))).2), some (.int (nI (i + 1))), none]) ⟨rfl, rfl, rfl, rfl, rfl, rfl, trivial⟩ ?_
            exact ihi _ _ v22 a22 hK22 saF_SO
          · skip
            refine XG.blk tX9_missed_ok 46 2 (pc' := 82) (pl' := [some (.ref 0), some (.int what), some (.int (itN (asleepF (a 54) (a0 35 lv)) 0 sl)), some (.int (itN (msF a0 lv sp sl cr (a 54) (itN (asleepF (a 54) (a0 35 lv)) 0 sl)) ((-2), (-2)) i).1), some (.int (itN (msF a0 lv sp sl cr (a 54) (itN (asleepF (a 54) (a0 35 lv)) 0 sl)) ((-2), (-2)) i).2), some (.int (nI i)), some (.int (lR a0 lv sp sl cr (saF (a 54) sl ((itN (asleepF (a 54) (a0 35 lv)) 0 sl) &&& (((nI 1) <<< ((nI i) &&& 31)) ^^^ (-1))))))]) (st' := [(.int (itN (msF a0 lv sp sl cr (a 54) (itN (asleepF (a 54) (a0 35 lv)) 0 sl)) ((-2), (-2)) i).2), (.int (lR a0 lv sp sl cr (saF (a 54) sl ((itN (asleepF (a 54) (a0 35 lv)) 0 sl) &&& (((nI 1) <<< ((nI i) &&& 31)) ^^^ (-1))))))]) (W1 := (mW v22 a22 b)) (bs := []) rfl rfl rfl ?_
            refine XG.br eX9_missed_82 (P := (lR a0 lv sp sl cr (saF (a 54) sl ((itN (asleepF (a 54) (a0 35 lv)) 0 sl) &&& (((nI 1) <<< ((nI i) &&& 31)) ^^^ (-1))))) < (itN (msF a0 lv sp sl cr (a 54) (itN (asleepF (a 54) (a0 35 lv)) 0 sl)) ((-2), (-2)) i).2) (r := []) rfl (tgt := 88) (by decide) (fun h82 => ?_) (fun h82 => ?_)
            · skip
              have q10 : ((nI i) + (nI 1)) = (nI (i + 1)) := px_eadd rfl rfl
              refine XG.blk tX9_missed_ok 50 5 (pc' := 98) (pl' := [some (.ref 0), some (.int what), some (.int (itN (asleepF (a 54) (a0 35 lv)) 0 sl)), some (.int (nI i)), some (.int (lR a0 lv sp sl cr (saF (a 54) sl ((itN (asleepF (a 54) (a0 35 lv)) 0 sl) &&& (((nI 1) <<< ((nI i) &&& 31)) ^^^ (-1)))))), some (.int ((nI i) + (nI 1))), some (.int (lR a0 lv sp sl cr (saF (a 54) sl ((itN (asleepF (a 54) (a0 35 lv)) 0 sl) &&& (((nI 1) <<< ((nI i) &&& 31)) ^^^ (-1))))))]) (st' := []) (W1 := (mW v22 a22 b)) (bs := []) rfl rfl rfl ?_
              simp only [q10]
              refine XG.goto eX9_missed_98 (tgt := 30) (by decide) ?_
              rw [show (itN (msF a0 lv sp sl cr (a 54) (itN (asleepF (a 54) (a0 35 lv)) 0 sl)) ((-2), (-2)) (i + 1)) = (nI i, (lR a0 lv sp sl cr (saF (a 54) sl ((itN (asleepF (a 54) (a0 35 lv)) 0 sl) &&& ((nI 1 <<< (nI i &&& 31)) ^^^ (-1)))))) from (if_neg h50).trans (if_pos (Or.inr h82))] at ihi
              refine XG.weak (pl' := [some (.ref 0), some (.int what), some (.int (itN (asleepF (a 54) (a0 35 lv)) 0 sl)), some (.int (nI i, (lR a0 lv sp sl cr (saF (a 54) sl ((itN (asleepF (a 54) (a0 35 lv)) 0 sl) &&& ((nI 1 <<< (nI i &&& 31)) ^^^ (-1)))))).1), some (.int (nI i, (lR a0 lv sp sl cr (saF (a 54) sl ((itN (asleepF (a 54) (a0 35 lv)) 0 sl) &&& ((nI 1 <<< (nI i &&& 31)) ^^^ (-1)))))).2), some (.int (nI (i + 1))), none]) ⟨rfl, rfl, rfl, rfl, rfl, rfl, trivial⟩ ?_
              exact ihi _ _ v22 a22 hK22 saF_SO
            · skip
              refine XG.goto eX9_missed_85 (tgt := 95) (by decide) ?_
              have q11 : ((nI i) + (nI 1)) = (nI (i + 1)) := px_eadd rfl rfl
              refine XG.blk tX9_missed_ok 54 1 (pc' := 98) (pl' := [some (.ref 0), some (.int what), some (.int (itN (asleepF (a 54) (a0 35 lv)) 0 sl)), some (.int (itN (msF a0 lv sp sl cr (a 54) (itN (asleepF (a 54) (a0 35 lv)) 0 sl)) ((-2), (-2)) i).1), some (.int (itN (msF a0 lv sp sl cr (a 54) (itN (asleepF (a 54) (a0 35 lv)) 0 sl)) ((-2), (-2)) i).2), some (.int ((nI i) + (nI 1))), some (.int (lR a0 lv sp sl cr (saF (a 54) sl ((itN (asleepF (a 54) (a0 35 lv)) 0 sl) &&& (((nI 1) <<< ((nI i) &&& 31)) ^^^ (-1))))))]) (st' := []) (W1 := (mW v22 a22 b)) (bs := []) rfl rfl rfl ?_
              simp only [q11]
              refine XG.goto eX9_missed_98 (tgt := 30) (by decide) ?_
              rw [show (itN (msF a0 lv sp sl cr (a 54) (itN (asleepF (a 54) (a0 35 lv)) 0 sl)) ((-2), (-2)) (i + 1)) = (itN (msF a0 lv sp sl cr (a 54) (itN (asleepF (a 54) (a0 35 lv)) 0 sl)) ((-2), (-2)) i) from (if_neg h50).trans (if_neg (fun hc => hc.elim h75 h82))] at ihi
              refine XG.weak (pl' := [some (.ref 0), some (.int what), some (.int (itN (asleepF (a 54) (a0 35 lv)) 0 sl)), some (.int (itN (msF a0 lv sp sl cr (a 54) (itN (asleepF (a 54) (a0 35 lv)) 0 sl)) ((-2), (-2)) i).1), some (.int (itN (msF a0 lv sp sl cr (a 54) (itN (asleepF (a 54) (a0 35 lv)) 0 sl)) ((-2), (-2)) i).2), some (.int (nI (i + 1))), none]) ⟨rfl, rfl, rfl, rfl, rfl, rfl, trivial⟩ ?_
              exact ihi _ _ v22 a22 hK22 saF_SO
        · skip
          have h50 := Decidable.not_not.mp h50
          refine XG.goto eX9_missed_53 (tgt := 95) (by decide) ?_
          have q12 : ((nI i) + (nI 1)) = (nI (i + 1)) := px_eadd rfl rfl
          refine XG.blk tX9_missed_ok 54 1 (pc' := 98) (pl' := [some (.ref 0), some (.int what), some (.int (itN (asleepF (a 54) (a0 35 lv)) 0 sl)), some (.int (itN (msF a0 lv sp sl cr (a 54) (itN (asleepF (a 54) (a0 35 lv)) 0 sl)) ((-2), (-2)) i).1), some (.int (itN (msF a0 lv sp sl cr (a 54) (itN (asleepF (a 54) (a0 35 lv)) 0 sl)) ((-2), (-2)) i).2), some (.int ((nI i) + (nI 1))), none]) (st' := []) (W1 := (mW v9 a9 b)) (bs := []) rfl rfl rfl ?_
          simp only [q12]
          refine XG.goto eX9_missed_98 (tgt := 30) (by decide) ?_
          rw [show (itN (msF a0 lv sp sl cr (a 54) (itN (asleepF (a 54) (a0 35 lv)) 0 sl)) ((-2), (-2)) (i + 1)) = (itN (msF a0 lv sp sl cr (a 54) (itN (asleepF (a 54) (a0 35 lv)) 0 sl)) ((-2), (-2)) i) from if_pos h50] at ihi
          exact ihi _ _ v9 a9 hK9 hSO
  · skip
    have h6 := Decidable.not_not.mp h6
    refine XG.blk tX9_missed_ok 5 1 (pc' := 10) (pl' := [some (.ref 0), some (.int what), none, none, none, none, none]) (st' := [(.int (-1))]) (W1 := (mW v a b)) (bs := []) rfl rfl rfl ?_
    refine XS.iret eX9_missed_10 rfl rfl ?_
    exact ⟨_, _, rfl, Qs.rf, by unfold qMissed; rw [if_neg (one_ne.mp h6)]⟩
