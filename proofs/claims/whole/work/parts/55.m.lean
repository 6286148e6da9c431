/-! the reference: the cheapest who bear a load -/
theorem or_bit : ∀ n : Fin 6, ∀ m : Fin (2 ^ n.val), nI m.val ||| (nI 1 <<< (nI n.val &&& 31)) = nI (m.val + 2 ^ n.val) := by decide +kernel
theorem asN_ex (row : Nat → Int32) (dawn : Int32) : ∀ n, n ≤ 6 → ∃ m, m < 2 ^ n ∧ itN (asleepF row dawn) 0 n = nI m := by
  intro n
  induction n with
  | zero => intro _; exact ⟨0, by decide, rfl⟩
  | succ n ih =>
    intro h
    obtain ⟨m, hm, e⟩ := ih (by omega)
    show ∃ m, m < 2 ^ (n + 1) ∧ asleepF row dawn n (itN (asleepF row dawn) 0 n) = nI m
    rw [e]
    have hp : 2 ^ (n + 1) = 2 ^ n + 2 ^ n := by omega
    unfold asleepF
    by_cases hs : slp row dawn n
    · exact ⟨m + 2 ^ n, by omega, by rw [if_pos hs]; exact or_bit ⟨n, by omega⟩ ⟨m, hm⟩⟩
    · exact ⟨m, by omega, by rw [if_neg hs]⟩
def chW (wage : Nat → Int32) (lv : Nat) (s : Int32) : Nat → Int32 → Int32 := fun x n => if ((s >>> (nI x &&& 31)) &&& nI 1) = nI 1 then n + wage (6 * lv + x) else n
def wgF (wage : Nat → Int32) (lv sl : Nat) (s : Int32) : Int32 := itN (chW wage lv s) 0 sl
def chF (a0 : Nat → Nat → Int32) (lv sp sl cr : Nat) (r0 : Nat → Int32) (al ld : Int32) : Nat → Int32 × Int32 → Int32 × Int32 := fun s p => if (nI s &&& (al ^^^ (-1))) = 0 ∧ (p.1 < 0 ∨ wgF (a0 27) lv sl (nI s) < p.2) ∧ ld ≤ lR a0 lv sp sl cr (saF r0 sl (nI s)) then (nI s, wgF (a0 27) lv sl (nI s)) else p
def chR (a : Nat → Nat → Int32) (lv sp sl cr : Nat) (ld : Int32) : Int32 × Int32 := itN (chF (aQ a) lv sp sl cr (a 54) (itN (asleepF (a 54) (a 35 lv)) 0 sl) ld) ((-2), (-2)) ((itN (asleepF (a 54) (a 35 lv)) 0 sl).toNatClampNeg + 1)
abbrev okCh (ld what : Int32) : Prop := (nI 0 ≤ ld ∧ ld ≤ nI 999) ∧ (nI 0 ≤ what ∧ what ≤ nI 1)
def qCheap (a : Nat → Nat → Int32) (lv sp sl cr : Nat) (ld what : Int32) : Int32 := if okCh ld what then (if what = 0 then (chR a lv sp sl cr ld).2 else (chR a lv sp sl cr ld).1) else -1
set_option maxHeartbeats 400000 in
theorem con_cheap (d : Nat) (v : Nat → Int32) (a : Nat → Nat → Int32) (b : Nat → Nat → Int64) (lv sp sl cr : Nat) (I : MI v a lv sp sl cr) (hwf : wf3 a lv) (ld what : Int32) (hd : 8 ≤ d) : Con mX9_cheap d [.ref 0, .int ld, .int what] (mW v a b) (fun r W' => ∃ v' a', W' = mW v' a' b ∧ Qs v v' a a' ∧ r = some (.int (qCheap a lv sp sl cr ld what))) := by
  obtain ⟨hlv, hlv2, hsp, hsp1, hsp2, hsl, hsl2, hcr, hcr2⟩ := id I
  refine Con.of (by decide) (Nat.le_of_ble_eq_true rfl) ?_
  refine XG.blk tX9_cheap_ok 0 3 (pc' := 5) (pl' := [some (.ref 0), some (.int ld), some (.int what), none, none, none, none, none, none]) (st' := [(.int (nI 999)), (.int (nI 0)), (.int ld)]) (W1 := (mW v a b)) (bs := []) rfl rfl rfl ?_
  refine XG.callSp (r := some (.int (if (nI 0) ≤ ld ∧ ld ≤ (nI 999) then 1 else 0))) eX9_cheap_5 kl_X9_331 (con_in (d - 1) ld (nI 0) (nI 999)) (px_fitS (by omega)) rfl rfl rfl rfl (Nat.le_of_ble_eq_true rfl) ?_
  refine XG.br eX9_cheap_8 (P := (if (nI 0) ≤ ld ∧ ld ≤ (nI 999) then 1 else 0) = 0) (r := []) rfl (tgt := 20) (by decide) (fun h8 => ?_) (fun h8 => ?_)
  · skip
    refine XG.blk tX9_cheap_ok 10 1 (pc' := 21) (pl' := [some (.ref 0), some (.int ld), some (.int what), none, none, none, none, none, none]) (st' := [(.int (-1))]) (W1 := (mW v a b)) (bs := []) rfl rfl rfl ?_
    refine XS.iret eX9_cheap_21 rfl rfl ?_
    exact ⟨_, _, rfl, Qs.rf, by unfold qCheap; rw [if_neg (fun hc => (one_ne.mp h8) hc.1)]⟩
  · skip
    refine XG.blk tX9_cheap_ok 5 3 (pc' := 14) (pl' := [some (.ref 0), some (.int ld), some (.int what), none, none, none, none, none, none]) (st' := [(.int (nI 1)), (.int (nI 0)), (.int what)]) (W1 := (mW v a b)) (bs := []) rfl rfl rfl ?_
    refine XG.callSp (r := some (.int (if (nI 0) ≤ what ∧ what ≤ (nI 1) then 1 else 0))) eX9_cheap_14 kl_X9_331 (con_in (d - 1) what (nI 0) (nI 1)) (px_fitS (by omega)) rfl rfl rfl rfl (Nat.le_of_ble_eq_true rfl) ?_
    refine XG.br eX9_cheap_17 (P := ¬ (if (nI 0) ≤ what ∧ what ≤ (nI 1) then 1 else 0) = 0) (r := []) rfl (tgt := 22) (by decide) (fun h17 => ?_) (fun h17 => ?_)
    · skip
      refine XG.blk tX9_cheap_ok 12 1 (pc' := 23) (pl' := [some (.ref 0), some (.int ld), some (.int what), none, none, none, none, none, none]) (st' := [(.ref 0)]) (W1 := (mW v a b)) (bs := []) rfl rfl rfl ?_
      refine XG.callV0 eX9_cheap_23 kl_X9_400 (con_copQ (d - 1) v a b lv sp sl cr I) (px_fitS (by omega)) rfl rfl rfl (Nat.le_of_ble_eq_true rfl) (fun r9 W9 hp9 hl9 => ?_)
      obtain ⟨rfl, rfl⟩ := hp9
      obtain ⟨v0, hv0⟩ : ∃ z, z = vQ v a lv 0 := ⟨_, rfl⟩
      obtain ⟨a0, ha0⟩ : ∃ z, z = aQ a := ⟨_, rfl⟩
      rw [← hv0, ← ha0]
      have hK9 : K v0 a0 (a 54) (a 60) v0 a0 := by rw [hv0, ha0]; exact kQ
      have I0 : MI v0 a0 lv sp sl cr := by rw [hv0, ha0]; exact I
      have hw3 : wf3 a0 lv := by rw [ha0]; exact wf3_Q hwf
      have hlv0 := I0.1
      refine XG.blk tX9_cheap_ok 14 1 (pc' := 27) (pl' := [some (.ref 0), some (.int ld), some (.int what), none, none, none, none, none, none]) (st' := [(.ref 0)]) (W1 := (mW v0 a0 b)) (bs := []) rfl rfl rfl ?_
      refine XG.callV0 eX9_cheap_27 kl_X9_421 (con_abK (d - 1) v0 v0 a0 a0 b (a 54) _ hK9 lv sp sl cr I0 (by omega)) (px_fitS (by omega)) rfl rfl rfl (Nat.le_of_ble_eq_true rfl) (fun r9 W9 hp9 hl9 => ?_)
      obtain ⟨rfl, rfl⟩ := hp9
      obtain ⟨m, hm, hme⟩ := asN_ex (a 54) (a0 35 lv) sl hsl2
      have hpw := pow_le hsl2
      rw [hme]
      refine XG.blk tX9_cheap_ok 16 7 (pc' := 42) (pl' := [some (.ref 0), some (.int ld), some (.int what), some (.int (nI m)), some (.int (-2)), some (.int (-2)), some (.int (nI 0)), none, none]) (st' := []) (W1 := (mW v0 a0 b)) (bs := []) rfl rfl rfl ?_
      obtain ⟨-, -, hsp, -, -, hsl, -, hcr, -⟩ := id I0
      have eR : chR a lv sp sl cr ld = (itN (chF a0 lv sp sl cr (a 54) (nI m) ld) ((-2), (-2)) (m + 1)) := by unfold chR; rw [← ha0, show a 35 = a0 35 from ha0 ▸ rfl, hme, nI_clamp (by omega)]
      refine px_for (m + 1) (fun j => ∀ (r w v9 : Nat → Int32) (a9 : Nat → Nat → Int32) (hK9 : K v0 a0 r w v9 a9) (hSO : SO (a 54) sl r), XG mX9_cheap _ 0 0 42 [some (.ref 0), some (.int ld), some (.int what), some (.int (nI m)), some (.int (itN (chF a0 lv sp sl cr (a 54) (nI m) ld) ((-2), (-2)) j).1), some (.int (itN (chF a0 lv sp sl cr (a 54) (nI m) ld) ((-2), (-2)) j).2), some (.int (nI j)), none, none] [] (mW v9 a9 b)) ?_ ?_ 0 (Nat.zero_le _) _ _ v0 a0 hK9 SO.rf
      · intro r w v9 a9 hK9 hSO
        have hlv9 := (hK9.MI I0).1
        refine XG.blk tX9_cheap_ok 23 2 (pc' := 45) (pl' := [some (.ref 0), some (.int ld), some (.int what), some (.int (nI m)), some (.int (itN (chF a0 lv sp sl cr (a 54) (nI m) ld) ((-2), (-2)) (m + 1)).1), some (.int (itN (chF a0 lv sp sl cr (a 54) (nI m) ld) ((-2), (-2)) (m + 1)).2), some (.int (nI (m + 1))), none, none]) (st' := [(.int (nI m)), (.int (nI (m + 1)))]) (W1 := (mW v9 a9 b)) (bs := []) rfl rfl rfl ?_
        refine XG.br eX9_cheap_45 (P := (nI m) < (nI (m + 1))) (r := []) rfl (tgt := 163) (by decide) (fun h45 => ?_) (fun h45 => ?_)
        · skip
          have g45 : m < (m + 1) := (nI_ltI (a := m) (b := (m + 1)) (by omega) (by omega)).mp h45
          refine XG.blk tX9_cheap_ok 85 1 (pc' := 164) (pl' := [some (.ref 0), some (.int ld), some (.int what), some (.int (nI m)), some (.int (itN (chF a0 lv sp sl cr (a 54) (nI m) ld) ((-2), (-2)) (m + 1)).1), some (.int (itN (chF a0 lv sp sl cr (a 54) (nI m) ld) ((-2), (-2)) (m + 1)).2), some (.int (nI (m + 1))), none, none]) (st' := [(.int what)]) (W1 := (mW v9 a9 b)) (bs := []) rfl rfl rfl ?_
          refine XG.br eX9_cheap_164 (P := ¬ what = 0) (r := []) rfl (tgt := 172) (by decide) (fun h164 => ?_) (fun h164 => ?_)
          · skip
            refine XG.blk tX9_cheap_ok 89 1 (pc' := 174) (pl' := [some (.ref 0), some (.int ld), some (.int what), some (.int (nI m)), some (.int (itN (chF a0 lv sp sl cr (a 54) (nI m) ld) ((-2), (-2)) (m + 1)).1), some (.int (itN (chF a0 lv sp sl cr (a 54) (nI m) ld) ((-2), (-2)) (m + 1)).2), some (.int (nI (m + 1))), none, none]) (st' := [(.int (itN (chF a0 lv sp sl cr (a 54) (nI m) ld) ((-2), (-2)) (m + 1)).1)]) (W1 := (mW v9 a9 b)) (bs := []) rfl rfl rfl ?_
            refine XS.iret eX9_cheap_174 rfl rfl ?_
            exact ⟨_, _, rfl, (Qs.c hv0 ha0).tr (Qs.K hK9), by unfold qCheap; rw [if_pos ⟨Decidable.not_not.mp (fun z => h8 (one_ne.mpr z)), Decidable.not_not.mp (fun z => h17 (one_ne.mpr z))⟩, if_neg h164, eR]⟩
          · skip
            have h164 := Decidable.not_not.mp h164
            refine XG.blk tX9_cheap_ok 87 1 (pc' := 169) (pl' := [some (.ref 0), some (.int ld), some (.int what), some (.int (nI m)), some (.int (itN (chF a0 lv sp sl cr (a 54) (nI m) ld) ((-2), (-2)) (m + 1)).1), some (.int (itN (chF a0 lv sp sl cr (a 54) (nI m) ld) ((-2), (-2)) (m + 1)).2), some (.int (nI (m + 1))), none, none]) (st' := [(.int (itN (chF a0 lv sp sl cr (a 54) (nI m) ld) ((-2), (-2)) (m + 1)).2)]) (W1 := (mW v9 a9 b)) (bs := []) rfl rfl rfl ?_
            refine XG.goto eX9_cheap_169 (tgt := 174) (by decide) ?_
            refine XS.iret eX9_cheap_174 rfl rfl ?_
            exact ⟨_, _, rfl, (Qs.c hv0 ha0).tr (Qs.K hK9), by unfold qCheap; rw [if_pos ⟨Decidable.not_not.mp (fun z => h8 (one_ne.mpr z)), Decidable.not_not.mp (fun z => h17 (one_ne.mpr z))⟩, if_pos h164, eR]⟩
        · exfalso
          have g45 : ¬ m < (m + 1) := (fun z => h45 ((nI_ltI (a := m) (b := (m + 1)) (by omega) (by omega)).mpr z))
          omega
      · intro j hj ihj r w v9 a9 hK9 hSO
        have hlv9 := (hK9.MI I0).1
        refine XG.blk tX9_cheap_ok 23 2 (pc' := 45) (pl' := [some (.ref 0), some (.int ld), some (.int what), some (.int (nI m)), some (.int (itN (chF a0 lv sp sl cr (a 54) (nI m) ld) ((-2), (-2)) j).1), some (.int (itN (chF a0 lv sp sl cr (a 54) (nI m) ld) ((-2), (-2)) j).2), some (.int (nI j)), none, none]) (st' := [(.int (nI m)), (.int (nI j))]) (W1 := (mW v9 a9 b)) (bs := []) rfl rfl rfl ?_
        refine XG.br eX9_cheap_45 (P := (nI m) < (nI j)) (r := []) rfl (tgt := 163) (by decide) (fun h45 => ?_) (fun h45 => ?_)
        · exfalso
          have g45 : m < j := (nI_ltI (a := m) (b := j) (by omega) (by omega)).mp h45
          omega
        · skip
          have g45 : ¬ m < j := (fun z => h45 ((nI_ltI (a := m) (b := j) (by omega) (by omega)).mpr z))
          refine XG.blk tX9_cheap_ok 26 5 (pc' := 54) (pl' := [some (.ref 0), some (.int ld), some (.int what), some (.int (nI m)), some (.int (itN (chF a0 lv sp sl cr (a 54) (nI m) ld) ((-2), (-2)) j).1), some (.int (itN (chF a0 lv sp sl cr (a 54) (nI m) ld) ((-2), (-2)) j).2), some (.int (nI j)), none, none]) (st' := [(.int ((nI j) &&& ((nI m) ^^^ (-1))))]) (W1 := (mW v9 a9 b)) (bs := []) rfl rfl rfl ?_
          refine XG.br eX9_cheap_54 (P := ((nI j) &&& ((nI m) ^^^ (-1))) = 0) (r := []) rfl (tgt := 60) (by decide) (fun h54 => ?_) (fun h54 => ?_)
          · skip
            refine XG.blk tX9_cheap_ok 33 4 (pc' := 66) (pl' := [some (.ref 0), some (.int ld), some (.int what), some (.int (nI m)), some (.int (itN (chF a0 lv sp sl cr (a 54) (nI m) ld) ((-2), (-2)) j).1), some (.int (itN (chF a0 lv sp sl cr (a 54) (nI m) ld) ((-2), (-2)) j).2), some (.int (nI j)), some (.int (nI 0)), some (.int (nI 0))]) (st' := []) (W1 := (mW v9 a9 b)) (bs := []) rfl rfl rfl ?_
            refine px_for sl (fun i => XG mX9_cheap _ 0 0 66 [some (.ref 0), some (.int ld), some (.int what), some (.int (nI m)), some (.int (itN (chF a0 lv sp sl cr (a 54) (nI m) ld) ((-2), (-2)) j).1), some (.int (itN (chF a0 lv sp sl cr (a 54) (nI m) ld) ((-2), (-2)) j).2), some (.int (nI j)), some (.int (itN (chW (a0 27) lv (nI j)) 0 i)), some (.int (nI i))] [] (mW v9 a9 b)) ?_ ?_ 0 (Nat.zero_le _)
            · skip
              have q1 : (v9 18) = (nI lv) := hlv9
              have q2 : (a9 24) = (a0 24) := hK9.2.1 24 (by decide)
              have q3 : (nI lv).toNatClampNeg = lv := nI_clamp (by omega)
              have q4 : ((a0 24) lv) = (nI sl) := hsl
              refine XG.blk tX9_cheap_ok 37 6 (pc' := 77) (pl' := [some (.ref 0), some (.int ld), some (.int what), some (.int (nI m)), some (.int (itN (chF a0 lv sp sl cr (a 54) (nI m) ld) ((-2), (-2)) j).1), some (.int (itN (chF a0 lv sp sl cr (a 54) (nI m) ld) ((-2), (-2)) j).2), some (.int (nI j)), some (.int (itN (chW (a0 27) lv (nI j)) 0 sl)), some (.int (nI sl))]) (st' := [(.int ((a9 24) (v9 18).toNatClampNeg)), (.int (nI sl))]) (W1 := (mW v9 a9 b)) (bs := [px_vb (v9 18) 2]) rfl rfl (by (try simp only [q1, q2, q3, q4]); exact (px_all (px_vbN (by omega) (by decide)) rfl)) ?_
              simp only [q1, q2, q3, q4]
              refine XG.br eX9_cheap_77 (P := (nI sl) ≤ (nI sl)) (r := []) rfl (tgt := 117) (by decide) (fun h77 => ?_) (fun h77 => ?_)
              · skip
                have g77 : sl ≤ sl := (nI_leI (a := sl) (b := sl) (by omega) (by omega)).mp h77
                refine XG.blk tX9_cheap_ok 65 1 (pc' := 119) (pl' := [some (.ref 0), some (.int ld), some (.int what), some (.int (nI m)), some (.int (itN (chF a0 lv sp sl cr (a 54) (nI m) ld) ((-2), (-2)) j).1), some (.int (itN (chF a0 lv sp sl cr (a 54) (nI m) ld) ((-2), (-2)) j).2), some (.int (nI j)), some (.int (itN (chW (a0 27) lv (nI j)) 0 sl)), some (.int (nI sl))]) (st' := [(.int (itN (chF a0 lv sp sl cr (a 54) (nI m) ld) ((-2), (-2)) j).1)]) (W1 := (mW v9 a9 b)) (bs := []) rfl rfl rfl ?_
                refine XG.br eX9_cheap_119 (P := (itN (chF a0 lv sp sl cr (a 54) (nI m) ld) ((-2), (-2)) j).1 < 0) (r := []) rfl (tgt := 132) (by decide) (fun h119 => ?_) (fun h119 => ?_)
                · skip
                  refine XG.blk tX9_cheap_ok 71 2 (pc' := 135) (pl' := [some (.ref 0), some (.int ld), some (.int what), some (.int (nI m)), some (.int (itN (chF a0 lv sp sl cr (a 54) (nI m) ld) ((-2), (-2)) j).1), some (.int (itN (chF a0 lv sp sl cr (a 54) (nI m) ld) ((-2), (-2)) j).2), some (.int (nI j)), some (.int (itN (chW (a0 27) lv (nI j)) 0 sl)), some (.int (nI sl))]) (st' := [(.int (nI j)), (.ref 0)]) (W1 := (mW v9 a9 b)) (bs := []) rfl rfl rfl ?_
                  refine XG.callV0 eX9_cheap_135 kl_X9_442 (con_saK (d - 1) v0 v9 a0 a9 b r _ hK9 lv sp sl cr I0 (nI j) (a 54) hSO) (px_fitS (by omega)) rfl rfl rfl (Nat.le_of_ble_eq_true rfl) (fun r9 W9 hp9 hl9 => ?_)
                  obtain ⟨v21, a21, rfl, hK21, rfl⟩ := hp9
                  have hlv21 := (hK21.MI I0).1
                  refine XG.blk tX9_cheap_ok 74 1 (pc' := 139) (pl' := [some (.ref 0), some (.int ld), some (.int what), some (.int (nI m)), some (.int (itN (chF a0 lv sp sl cr (a 54) (nI m) ld) ((-2), (-2)) j).1), some (.int (itN (chF a0 lv sp sl cr (a 54) (nI m) ld) ((-2), (-2)) j).2), some (.int (nI j)), some (.int (itN (chW (a0 27) lv (nI j)) 0 sl)), some (.int (nI sl))]) (st' := [(.ref 0)]) (W1 := (mW v21 a21 b)) (bs := []) rfl rfl rfl ?_
                  refine XG.callV0 eX9_cheap_139 kl_X9_427 (con_leK (d - 1) v0 v21 a0 a21 b (saF (a 54) sl (nI j)) _ hK21 lv sp sl cr I0 hw3 (by omega)) (px_fitS (by omega)) rfl rfl rfl (Nat.le_of_ble_eq_true rfl) (fun r9 W9 hp9 hl9 => ?_)
                  obtain ⟨v22, a22, rfl, hj22, rfl⟩ := hp9
                  have hK22 := K.J hK21 hj22
                  have hlv22 := (hK22.MI I0).1
                  refine XG.blk tX9_cheap_ok 76 1 (pc' := 143) (pl' := [some (.ref 0), some (.int ld), some (.int what), some (.int (nI m)), some (.int (itN (chF a0 lv sp sl cr (a 54) (nI m) ld) ((-2), (-2)) j).1), some (.int (itN (chF a0 lv sp sl cr (a 54) (nI m) ld) ((-2), (-2)) j).2), some (.int (nI j)), some (.int (itN (chW (a0 27) lv (nI j)) 0 sl)), some (.int (nI sl))]) (st' := [(.int ld), (.int (lR a0 lv sp sl cr (saF (a 54) sl (nI j))))]) (W1 := (mW v22 a22 b)) (bs := []) rfl rfl rfl ?_
                  refine XG.br eX9_cheap_143 (P := ld ≤ (lR a0 lv sp sl cr (saF (a 54) sl (nI j)))) (r := []) rfl (tgt := 149) (by decide) (fun h143 => ?_) (fun h143 => ?_)
                  · skip
                    have q5 : ((nI j) + (nI 1)) = (nI (j + 1)) := px_eadd rfl rfl
                    refine XG.blk tX9_cheap_ok 79 5 (pc' := 160) (pl' := [some (.ref 0), some (.int ld), some (.int what), some (.int (nI m)), some (.int (nI j)), some (.int (itN (chW (a0 27) lv (nI j)) 0 sl)), some (.int ((nI j) + (nI 1))), some (.int (itN (chW (a0 27) lv (nI j)) 0 sl)), some (.int (nI sl))]) (st' := []) (W1 := (mW v22 a22 b)) (bs := []) rfl rfl rfl ?_
                    simp only [q5]
                    refine XG.goto eX9_cheap_160 (tgt := 42) (by decide) ?_
                    rw [show (itN (chF a0 lv sp sl cr (a 54) (nI m) ld) ((-2), (-2)) (j + 1)) = (nI j, wgF (a0 27) lv sl (nI j)) from if_pos ⟨h54, Or.inl h119, h143⟩] at ihj
                    refine XG.weak (pl' := [some (.ref 0), some (.int ld), some (.int what), some (.int (nI m)), some (.int (nI j, wgF (a0 27) lv sl (nI j)).1), some (.int (nI j, wgF (a0 27) lv sl (nI j)).2), some (.int (nI (j + 1))), none, none]) ⟨rfl, rfl, rfl, rfl, rfl, rfl, rfl, trivial⟩ ?_
                    exact ihj _ _ v22 a22 hK22 saF_SO
                  · skip
                    refine XG.goto eX9_cheap_146 (tgt := 157) (by decide) ?_
                    have q6 : ((nI j) + (nI 1)) = (nI (j + 1)) := px_eadd rfl rfl
                    refine XG.blk tX9_cheap_ok 83 1 (pc' := 160) (pl' := [some (.ref 0), some (.int ld), some (.int what), some (.int (nI m)), some (.int (itN (chF a0 lv sp sl cr (a 54) (nI m) ld) ((-2), (-2)) j).1), some (.int (itN (chF a0 lv sp sl cr (a 54) (nI m) ld) ((-2), (-2)) j).2), some (.int ((nI j) + (nI 1))), some (.int (itN (chW (a0 27) lv (nI j)) 0 sl)), some (.int (nI sl))]) (st' := []) (W1 := (mW v22 a22 b)) (bs := []) rfl rfl rfl ?_
                    simp only [q6]
                    refine XG.goto eX9_cheap_160 (tgt := 42) (by decide) ?_
                    rw [show (itN (chF a0 lv sp sl cr (a 54) (nI m) ld) ((-2), (-2)) (j + 1)) = (itN (chF a0 lv sp sl cr (a 54) (nI m) ld) ((-2), (-2)) j) from if_neg (fun hc => h143 hc.2.2)] at ihj
                    refine XG.weak (pl' := [some (.ref 0), some (.int ld), some (.int what), some (.int (nI m)), some (.int (itN (chF a0 lv sp sl cr (a 54) (nI m) ld) ((-2), (-2)) j).1), some (.int (itN (chF a0 lv sp sl cr (a 54) (nI m) ld) ((-2), (-2)) j).2), some (.int (nI (j + 1))), none, none]) ⟨rfl, rfl, rfl, rfl, rfl, rfl, rfl, trivial⟩ ?_
                    exact ihj _ _ v22 a22 hK22 saF_SO
                · skip
                  refine XG.blk tX9_cheap_ok 67 2 (pc' := 126) (pl' := [some (.ref 0), some (.int ld), some (.int what), some (.int (nI m)), some (.int (itN (chF a0 lv sp sl cr (a 54) (nI m) ld) ((-2), (-2)) j).1), some (.int (itN (chF a0 lv sp sl cr (a 54) (nI m) ld) ((-2), (-2)) j).2), some (.int (nI j)), some (.int (itN (chW (a0 27) lv (nI j)) 0 sl)), some (.int (nI sl))]) (st' := [(.int (itN (chF a0 lv sp sl cr (a 54) (nI m) ld) ((-2), (-2)) j).2), (.int (itN (chW (a0 27) lv (nI j)) 0 sl))]) (W1 := (mW v9 a9 b)) (bs := []) rfl rfl rfl ?_
                  refine XG.br eX9_cheap_126 (P := (itN (chW (a0 27) lv (nI j)) 0 sl) < (itN (chF a0 lv sp sl cr (a 54) (nI m) ld) ((-2), (-2)) j).2) (r := []) rfl (tgt := 132) (by decide) (fun h126 => ?_) (fun h126 => ?_)
                  · skip
                    refine XG.blk tX9_cheap_ok 71 2 (pc' := 135) (pl' := [some (.ref 0), some (.int ld), some (.int what), some (.int (nI m)), some (.int (itN (chF a0 lv sp sl cr (a 54) (nI m) ld) ((-2), (-2)) j).1), some (.int (itN (chF a0 lv sp sl cr (a 54) (nI m) ld) ((-2), (-2)) j).2), some (.int (nI j)), some (.int (itN (chW (a0 27) lv (nI j)) 0 sl)), some (.int (nI sl))]) (st' := [(.int (nI j)), (.ref 0)]) (W1 := (mW v9 a9 b)) (bs := []) rfl rfl rfl ?_
                    refine XG.callV0 eX9_cheap_135 kl_X9_442 (con_saK (d - 1) v0 v9 a0 a9 b r _ hK9 lv sp sl cr I0 (nI j) (a 54) hSO) (px_fitS (by omega)) rfl rfl rfl (Nat.le_of_ble_eq_true rfl) (fun r9 W9 hp9 hl9 => ?_)
                    obtain ⟨v23, a23, rfl, hK23, rfl⟩ := hp9
                    have hlv23 := (hK23.MI I0).1
                    refine XG.blk tX9_cheap_ok 74 1 (pc' := 139) (pl' := [some (.ref 0), some (.int ld), some (.int what), some (.int (nI m)), some (.int (itN (chF a0 lv sp sl cr (a 54) (nI m) ld) ((-2), (-2)) j).1), some (.int (itN (chF a0 lv sp sl cr (a 54) (nI m) ld) ((-2), (-2)) j).2), some (.int (nI j)), some (.int (itN (chW (a0 27) lv (nI j)) 0 sl)), some (.int (nI sl))]) (st' := [(.ref 0)]) (W1 := (mW v23 a23 b)) (bs := []) rfl rfl rfl ?_
                    refine XG.callV0 eX9_cheap_139 kl_X9_427 (con_leK (d - 1) v0 v23 a0 a23 b (saF (a 54) sl (nI j)) _ hK23 lv sp sl cr I0 hw3 (by omega)) (px_fitS (by omega)) rfl rfl rfl (Nat.le_of_ble_eq_true rfl) (fun r9 W9 hp9 hl9 => ?_)
                    obtain ⟨v24, a24, rfl, hj24, rfl⟩ := hp9
                    have hK24 := K.J hK23 hj24
                    have hlv24 := (hK24.MI I0).1
                    refine XG.blk tX9_cheap_ok 76 1 (pc' := 143) (pl' := [some (.ref 0), some (.int ld), some (.int what), some (.int (nI m)), some (.int (itN (chF a0 lv sp sl cr (a 54) (nI m) ld) ((-2), (-2)) j).1), some (.int (itN (chF a0 lv sp sl cr (a 54) (nI m) ld) ((-2), (-2)) j).2), some (.int (nI j)), some (.int (itN (chW (a0 27) lv (nI j)) 0 sl)), some (.int (nI sl))]) (st' := [(.int ld), (.int (lR a0 lv sp sl cr (saF (a 54) sl (nI j))))]) (W1 := (mW v24 a24 b)) (bs := []) rfl rfl rfl ?_
                    refine XG.br eX9_cheap_143 (P := ld ≤ (lR a0 lv sp sl cr (saF (a 54) sl (nI j)))) (r := []) rfl (tgt := 149) (by decide) (fun h143 => ?_) (fun h143 => ?_)
                    · skip
                      have q7 : ((nI j) + (nI 1)) = (nI (j + 1)) := px_eadd rfl rfl
                      refine XG.blk tX9_cheap_ok 79 5 (pc' := 160) (pl' := [some (.ref 0), some (.int ld), some (.int what), some (.int (nI m)), some (.int (nI j)), some (.int (itN (chW (a0 27) lv (nI j)) 0 sl)), some (.int ((nI j) + (nI 1))), some (.int (itN (chW (a0 27) lv (nI j)) 0 sl)), some (.int (nI sl))]) (st' := []) (W1 := (mW v24 a24 b)) (bs := []) rfl rfl rfl ?_
                      simp only [q7]
                      refine XG.goto eX9_cheap_160 (tgt := 42) (by decide) ?_
                      rw [show (itN (chF a0 lv sp sl cr (a 54) (nI m) ld) ((-2), (-2)) (j + 1)) = (nI j, wgF (a0 27) lv sl (nI j)) from if_pos ⟨h54, Or.inr h126, h143⟩] at ihj
                      refine XG.weak (pl' := [some (.ref 0), some (.int ld), some (.int what), some (.int (nI m)), some (.int (nI j, wgF (a0 27) lv sl (nI j)).1), some (.int (nI j, wgF (a0 27) lv sl (nI j)).2), some (.int (nI (j + 1))), none, none]) ⟨rfl, rfl, rfl, rfl, rfl, rfl, rfl, trivial⟩ ?_
                      exact ihj _ _ v24 a24 hK24 saF_SO
                    · skip
                      refine XG.goto eX9_cheap_146 (tgt := 157) (by decide) ?_
                      have q8 : ((nI j) + (nI 1)) = (nI (j + 1)) := px_eadd rfl rfl
                      refine XG.blk tX9_cheap_ok 83 1 (pc' := 160) (pl' := [some (.ref 0), some (.int ld), some (.int what), some (.int (nI m)), some (.int (itN (chF a0 lv sp sl cr (a 54) (nI m) ld) ((-2), (-2)) j).1), some (.int (itN (chF a0 lv sp sl cr (a 54) (nI m) ld) ((-2), (-2)) j).2), some (.int ((nI j) + (nI 1))), some (.int (itN (chW (a0 27) lv (nI j)) 0 sl)), some (.int (nI sl))]) (st' := []) (W1 := (mW v24 a24 b)) (bs := []) rfl rfl rfl ?_
                      simp only [q8]
                      refine XG.goto eX9_cheap_160 (tgt := 42) (by decide) ?_
                      rw [show (itN (chF a0 lv sp sl cr (a 54) (nI m) ld) ((-2), (-2)) (j + 1)) = (itN (chF a0 lv sp sl cr (a 54) (nI m) ld) ((-2), (-2)) j) from if_neg (fun hc => h143 hc.2.2)] at ihj
                      refine XG.weak (pl' := [some (.ref 0), some (.int ld), some (.int what), some (.int (nI m)), some (.int (itN (chF a0 lv sp sl cr (a 54) (nI m) ld) ((-2), (-2)) j).1), some (.int (itN (chF a0 lv sp sl cr (a 54) (nI m) ld) ((-2), (-2)) j).2), some (.int (nI (j + 1))), none, none]) ⟨rfl, rfl, rfl, rfl, rfl, rfl, rfl, trivial⟩ ?_
                      exact ihj _ _ v24 a24 hK24 saF_SO
                  · skip
                    refine XG.goto eX9_cheap_129 (tgt := 157) (by decide) ?_
                    have q9 : ((nI j) + (nI 1)) = (nI (j + 1)) := px_eadd rfl rfl
                    refine XG.blk tX9_cheap_ok 83 1 (pc' := 160) (pl' := [some (.ref 0), some (.int ld), some (.int what), some (.int (nI m)), some (.int (itN (chF a0 lv sp sl cr (a 54) (nI m) ld) ((-2), (-2)) j).1), some (.int (itN (chF a0 lv sp sl cr (a 54) (nI m) ld) ((-2), (-2)) j).2), some (.int ((nI j) + (nI 1))), some (.int (itN (chW (a0 27) lv (nI j)) 0 sl)), some (.int (nI sl))]) (st' := []) (W1 := (mW v9 a9 b)) (bs := []) rfl rfl rfl ?_
                    simp only [q9]
                    refine XG.goto eX9_cheap_160 (tgt := 42) (by decide) ?_
                    rw [show (itN (chF a0 lv sp sl cr (a 54) (nI m) ld) ((-2), (-2)) (j + 1)) = (itN (chF a0 lv sp sl cr (a 54) (nI m) ld) ((-2), (-2)) j) from if_neg (fun hc => hc.2.1.elim h119 h126)] at ihj
                    refine XG.weak (pl' := [some (.ref 0), some (.int ld), some (.int what), some (.int (nI m)), some (.int (itN (chF a0 lv sp sl cr (a 54) (nI m) ld) ((-2), (-2)) j).1), some (.int (itN (chF a0 lv sp sl cr (a 54) (nI m) ld) ((-2), (-2)) j).2), some (.int (nI (j + 1))), none, none]) ⟨rfl, rfl, rfl, rfl, rfl, rfl, rfl, trivial⟩ ?_
                    exact ihj _ _ v9 a9 hK9 hSO
              · exfalso
                have g77 : ¬ sl ≤ sl := (fun z => h77 ((nI_leI (a := sl) (b := sl) (by omega) (by omega)).mpr z))
                omega
            · intro i hi ihi
              have q10 : (v9 18) = (nI lv) := hlv9
              have q11 : (a9 24) = (a0 24) := hK9.2.1 24 (by decide)
              have q12 : (nI lv).toNatClampNeg = lv := nI_clamp (by omega)
              have q13 : ((a0 24) lv) = (nI sl) := hsl
              refine XG.blk tX9_cheap_ok 37 6 (pc' := 77) (pl' := [some (.ref 0), some (.int ld), some (.int what), some (.int (nI m)), some (.int (itN (chF a0 lv sp sl cr (a 54) (nI m) ld) ((-2), (-2)) j).1), some (.int (itN (chF a0 lv sp sl cr (a 54) (nI m) ld) ((-2), (-2)) j).2), some (.int (nI j)), some (.int (itN (chW (a0 27) lv (nI j)) 0 i)), some (.int (nI i))]) (st' := [(.int ((a9 24) (v9 18).toNatClampNeg)), (.int (nI i))]) (W1 := (mW v9 a9 b)) (bs := [px_vb (v9 18) 2]) rfl rfl (by (try simp only [q10, q11, q12, q13]); exact (px_all (px_vbN (by omega) (by decide)) rfl)) ?_
              simp only [q10, q11, q12, q13]
              refine XG.br eX9_cheap_77 (P := (nI sl) ≤ (nI i)) (r := []) rfl (tgt := 117) (by decide) (fun h77 => ?_) (fun h77 => ?_)
              · exfalso
                have g77 : sl ≤ i := (nI_leI (a := sl) (b := i) (by omega) (by omega)).mp h77
                omega
              · skip
                have g77 : ¬ sl ≤ i := (fun z => h77 ((nI_leI (a := sl) (b := i) (by omega) (by omega)).mpr z))
                refine XG.blk tX9_cheap_ok 44 6 (pc' := 88) (pl' := [some (.ref 0), some (.int ld), some (.int what), some (.int (nI m)), some (.int (itN (chF a0 lv sp sl cr (a 54) (nI m) ld) ((-2), (-2)) j).1), some (.int (itN (chF a0 lv sp sl cr (a 54) (nI m) ld) ((-2), (-2)) j).2), some (.int (nI j)), some (.int (itN (chW (a0 27) lv (nI j)) 0 i)), some (.int (nI i))]) (st' := [(.int (nI 1)), (.int (((nI j) >>> ((nI i) &&& 31)) &&& (nI 1)))]) (W1 := (mW v9 a9 b)) (bs := []) rfl rfl rfl ?_
                refine XG.br eX9_cheap_88 (P := ¬ (((nI j) >>> ((nI i) &&& 31)) &&& (nI 1)) = (nI 1)) (r := []) rfl (tgt := 111) (by decide) (fun h88 => ?_) (fun h88 => ?_)
                · skip
                  have q14 : ((nI i) + (nI 1)) = (nI (i + 1)) := px_eadd rfl rfl
                  refine XG.blk tX9_cheap_ok 63 1 (pc' := 114) (pl' := [some (.ref 0), some (.int ld), some (.int what), some (.int (nI m)), some (.int (itN (chF a0 lv sp sl cr (a 54) (nI m) ld) ((-2), (-2)) j).1), some (.int (itN (chF a0 lv sp sl cr (a 54) (nI m) ld) ((-2), (-2)) j).2), some (.int (nI j)), some (.int (itN (chW (a0 27) lv (nI j)) 0 i)), some (.int ((nI i) + (nI 1)))]) (st' := []) (W1 := (mW v9 a9 b)) (bs := []) rfl rfl rfl ?_
                  simp only [q14]
                  refine XG.goto eX9_cheap_114 (tgt := 66) (by decide) ?_
                  rw [show (itN (chW (a0 27) lv (nI j)) 0 (i + 1)) = (itN (chW (a0 27) lv (nI j)) 0 i) from if_neg h88] at ihi
                  exact ihi
                · skip
                  have h88 := Decidable.not_not.mp h88
                  have q15 : (v9 18) = (nI lv) := hlv9
                  have q16 : ((nI 6) * (nI lv)) = (nI (6 * lv)) := px_emul rfl rfl
                  have q17 : ((nI (6 * lv)) + (nI i)) = (nI ((6 * lv) + i)) := px_eadd rfl rfl
                  have q18 : (a9 27) = (a0 27) := hK9.2.1 27 (by decide)
                  have q19 : (nI ((6 * lv) + i)).toNatClampNeg = ((6 * lv) + i) := nI_clamp (by omega)
                  have q20 : ((nI i) + (nI 1)) = (nI (i + 1)) := px_eadd rfl rfl
                  refine XG.blk tX9_cheap_ok 51 13 (pc' := 114) (pl' := [some (.ref 0), some (.int ld), some (.int what), some (.int (nI m)), some (.int (itN (chF a0 lv sp sl cr (a 54) (nI m) ld) ((-2), (-2)) j).1), some (.int (itN (chF a0 lv sp sl cr (a 54) (nI m) ld) ((-2), (-2)) j).2), some (.int (nI j)), some (.int ((itN (chW (a0 27) lv (nI j)) 0 i) + ((a9 27) (((nI 6) * (v9 18)) + (nI i)).toNatClampNeg))), some (.int ((nI i) + (nI 1)))]) (st' := []) (W1 := (mW v9 a9 b)) (bs := [px_vb (((nI 6) * (v9 18)) + (nI i)) 12]) rfl rfl (by (try simp only [q15, q16, q17, q18, q19, q20]); exact (px_all (px_vbN (by omega) (by decide)) rfl)) ?_
                  simp only [q15, q16, q17, q18, q19, q20]
                  refine XG.goto eX9_cheap_114 (tgt := 66) (by decide) ?_
                  rw [show (itN (chW (a0 27) lv (nI j)) 0 (i + 1)) = (itN (chW (a0 27) lv (nI j)) 0 i) + a0 27 (6 * lv + i) from if_pos h88] at ihi
                  exact ihi
          · skip
            refine XG.goto eX9_cheap_57 (tgt := 157) (by decide) ?_
            have q21 : ((nI j) + (nI 1)) = (nI (j + 1)) := px_eadd rfl rfl
            refine XG.blk tX9_cheap_ok 83 1 (pc' := 160) (pl' := [some (.ref 0), some (.int ld), some (.int what), some (.int (nI m)), some (.int (itN (chF a0 lv sp sl cr (a 54) (nI m) ld) ((-2), (-2)) j).1), some (.int (itN (chF a0 lv sp sl cr (a 54) (nI m) ld) ((-2), (-2)) j).2), some (.int ((nI j) + (nI 1))), none, none]) (st' := []) (W1 := (mW v9 a9 b)) (bs := []) rfl rfl rfl ?_
            simp only [q21]
            refine XG.goto eX9_cheap_160 (tgt := 42) (by decide) ?_
            rw [show (itN (chF a0 lv sp sl cr (a 54) (nI m) ld) ((-2), (-2)) (j + 1)) = (itN (chF a0 lv sp sl cr (a 54) (nI m) ld) ((-2), (-2)) j) from if_neg (fun hc => h54 hc.1)] at ihj
            exact ihj _ _ v9 a9 hK9 hSO
    · skip
      have h17 := Decidable.not_not.mp h17
      refine XG.blk tX9_cheap_ok 10 1 (pc' := 21) (pl' := [some (.ref 0), some (.int ld), some (.int what), none, none, none, none, none, none]) (st' := [(.int (-1))]) (W1 := (mW v a b)) (bs := []) rfl rfl rfl ?_
      refine XS.iret eX9_cheap_21 rfl rfl ?_
      exact ⟨_, _, rfl, Qs.rf, by unfold qCheap; rw [if_neg (fun hc => (one_ne.mp h17) hc.2)]⟩
