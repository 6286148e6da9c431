/-! the class: an hour goes by -/
theorem cc_stirred (d : Nat) (h x : Int32) : Con mX4_stirred d [.int h, .int x] [] (fun r _ => r = some (.int (mixF h x))) := by
  refine Con.of (by decide) (Nat.le_of_ble_eq_true rfl) ?_
  refine XG.blk tX4_stirred_ok 0 13 (pc' := 17) (pl' := [some (.int h), some (.int x), some (.int (((h ^^^ x) * 1103515245) + (nI 12345)))]) (st' := [(.int ((((h ^^^ x) * 1103515245) + (nI 12345)) ^^^ (((((h ^^^ x) * 1103515245) + (nI 12345))).toUInt32 >>> (((nI 15)).toUInt32 &&& Int32.toUInt32 31)).toInt32))]) (W1 := []) (bs := []) rfl rfl rfl ?_
  refine XS.iret eX4_stirred_17 rfl rfl ?_
  rfl
theorem cc_lotOf100 (d : Nat) (h x : Int32) (hd : 1 ≤ d) : Con mX4_lotOf100 d [.int h, .int x] [] (fun r _ => r = some (.int (lotF h x))) := by
  refine Con.of (by decide) (Nat.le_of_ble_eq_true rfl) ?_
  refine XG.blk tX4_lotOf100_ok 0 2 (pc' := 3) (pl' := [some (.int h), some (.int x), none]) (st' := [(.int (nI 93)), (.int h)]) (W1 := []) (bs := []) rfl rfl rfl ?_
  refine XG.callSp (r := some (.int (mixF h (nI 93)))) eX4_lotOf100_3 kl_X4_147 (cc_stirred (d - 1) h (nI 93)) (px_fitS (by omega)) rfl rfl rfl rfl (Nat.le_of_ble_eq_true rfl) ?_
  refine XG.blk tX4_lotOf100_ok 3 1 (pc' := 7) (pl' := [some (.int h), some (.int x), none]) (st' := [(.int x), (.int (mixF h (nI 93)))]) (W1 := []) (bs := []) rfl rfl rfl ?_
  refine XG.callSp (r := some (.int (mixF (mixF h (nI 93)) x))) eX4_lotOf100_7 kl_X4_147 (cc_stirred (d - 1) (mixF h (nI 93)) x) (px_fitS (by omega)) rfl rfl rfl rfl (Nat.le_of_ble_eq_true rfl) ?_
  refine XG.blk tX4_lotOf100_ok 5 6 (pc' := 17) (pl' := [some (.int h), some (.int x), some (.int (mixF (mixF h (nI 93)) x))]) (st' := [(.int ((((mixF (mixF h (nI 93)) x)).toUInt32 >>> (((nI 1)).toUInt32 &&& Int32.toUInt32 31)).toInt32 - (((mixF (mixF h (nI 93)) x)).toUInt32 >>> (((nI 1)).toUInt32 &&& Int32.toUInt32 31)).toInt32 / (nI 100) * (nI 100)))]) (W1 := []) (bs := [!((nI 100) == 0)]) rfl rfl (px_all (rfl) rfl) ?_
  refine XS.iret eX4_lotOf100_17 rfl rfl ?_
  rfl
set_option maxHeartbeats 400000 in
theorem cc_letSpansBreak (d : Nat) (se : Nat → Int32) (tv : Nat → Int32) (ta : Nat → Nat → Int32) (tb : Nat → Nat → Int64) (nv : Nat → Int32) (na : Nat → Nat → Int32) (S : SD) (lv : Nat) (a : Nat → Nat → Int32) (hX : CX S lv a tv ta) (R : Nat → Int32) (hN : CNt S R nv na) (hd : 4 ≤ d) : Con mX4_letSpansBreak d [.ref 0, .ref 17] (rW se tv ta tb nv na) (fun r W' => ∃ se' sk' na', W' = rW se' tv (va_up ta 22 sk') tb nv na' ∧ CNt S (itN (brkF a lv (S.1 24) (S.1 31)) R (S.1 23)) nv na' ∧ r = none) := by
  obtain ⟨hcr, hcr2⟩ := hX.cr
  obtain ⟨hsl, hsl2⟩ := hX.sl
  obtain ⟨hsp, hsp1, hsp2⟩ := hX.sp
  have hWh := hN.2.2.2.2.2.2
  refine Con.of (by decide) (Nat.le_of_ble_eq_true rfl) ?_
  refine XG.blk tX4_letSpansBreak_ok 0 2 (pc' := 2) (pl' := [some (.ref 0), some (.ref 17), some (.int (nI 0)), none, none]) (st' := []) (W1 := (rW se tv ta tb nv na)) (bs := []) rfl rfl rfl ?_
  refine px_for (S.1 23) (fun i => ∀ (se9 sk9 : Nat → Int32) (na9 : Nat → Nat → Int32) (_ : CNt S (itN (brkF a lv (S.1 24) (S.1 31)) R i) nv na9), XG mX4_letSpansBreak _ 0 0 2 [some (.ref 0), some (.ref 17), some (.int (nI i)), none, none] [] (rW se9 tv (va_up ta 22 sk9) tb nv na9)) ?_ ?_ 0 (Nat.zero_le _) se (ta 22) na hN
  · intro se9 sk9 na9 hN9
    have q1 : (tv 0) = (nI (S.1 23)) := hsp
    refine XG.blk tX4_letSpansBreak_ok 2 4 (pc' := 10) (pl' := [some (.ref 0), some (.ref 17), some (.int (nI (S.1 23))), none, none]) (st' := [(.int (tv 0)), (.int (nI (S.1 23)))]) (W1 := (rW se9 tv (va_up ta 22 sk9) tb nv na9)) (bs := []) rfl rfl rfl ?_
    simp only [q1]
    refine XG.br eX4_letSpansBreak_10 (P := (nI (S.1 23)) ≤ (nI (S.1 23))) (r := []) rfl (tgt := 84) (by decide) (fun h10 => ?_) (fun h10 => ?_)
    · skip
      have g10 : (S.1 23) ≤ (S.1 23) := (nI_leI (a := (S.1 23)) (b := (S.1 23)) (by omega) (by omega)).mp h10
      refine XS.vret eX4_letSpansBreak_84 rfl ?_
      exact ⟨_, _, _, rfl, hN9, rfl⟩
    · exfalso
      have g10 : ¬ (S.1 23) ≤ (S.1 23) := (fun z => h10 ((nI_leI (a := (S.1 23)) (b := (S.1 23)) (by omega) (by omega)).mpr z))
      omega
  · intro i hi ihi se9 sk9 na9 hN9
    have q2 : (tv 0) = (nI (S.1 23)) := hsp
    refine XG.blk tX4_letSpansBreak_ok 2 4 (pc' := 10) (pl' := [some (.ref 0), some (.ref 17), some (.int (nI i)), none, none]) (st' := [(.int (tv 0)), (.int (nI i))]) (W1 := (rW se9 tv (va_up ta 22 sk9) tb nv na9)) (bs := []) rfl rfl rfl ?_
    simp only [q2]
    refine XG.br eX4_letSpansBreak_10 (P := (nI (S.1 23)) ≤ (nI i)) (r := []) rfl (tgt := 84) (by decide) (fun h10 => ?_) (fun h10 => ?_)
    · exfalso
      have g10 : (S.1 23) ≤ i := (nI_leI (a := (S.1 23)) (b := i) (by omega) (by omega)).mp h10
      omega
    · skip
      have g10 : ¬ (S.1 23) ≤ i := (fun z => h10 ((nI_leI (a := (S.1 23)) (b := i) (by omega) (by omega)).mpr z))
      refine XG.blk tX4_letSpansBreak_ok 7 3 (pc' := 16) (pl' := [some (.ref 0), some (.ref 17), some (.int (nI i)), none, none]) (st' := [(.int (nI i)), (.ref 17), (.ref 0)]) (W1 := (rW se9 tv (va_up ta 22 sk9) tb nv na9)) (bs := []) rfl rfl rfl ?_
      refine XG.callV0 eX4_letSpansBreak_16 kl_X4_151 (cc_loadOn (d - 1) se9 tv (va_up ta 22 sk9) tb nv na9 S lv a hX.sk (itN (brkF a lv (S.1 24) (S.1 31)) R i) hN9 (nI i)) (px_fitS (by omega)) rfl rfl rfl (Nat.le_of_ble_eq_true rfl) (fun r9 W9 hp9 hl9 => ?_)
      obtain ⟨rfl, rfl⟩ := hp9
      refine XG.blk tX4_letSpansBreak_ok 11 2 (pc' := 21) (pl' := [some (.ref 0), some (.ref 17), some (.int (nI i)), some (.int (itN (loadF (itN (brkF a lv (S.1 24) (S.1 31)) R i) (a 32) lv (nI i)) 0 (S.1 31))), none]) (st' := [(.int (itN (loadF (itN (brkF a lv (S.1 24) (S.1 31)) R i) (a 32) lv (nI i)) 0 (S.1 31)))]) (W1 := (rW se9 tv (va_up ta 22 sk9) tb nv na9)) (bs := []) rfl rfl rfl ?_
      refine XG.br eX4_letSpansBreak_21 (P := (itN (loadF (itN (brkF a lv (S.1 24) (S.1 31)) R i) (a 32) lv (nI i)) 0 (S.1 31)) = 0) (r := []) rfl (tgt := 78) (by decide) (fun h21 => ?_) (fun h21 => ?_)
      · skip
        have q3 : ((nI i) + (nI 1)) = (nI (i + 1)) := px_eadd rfl rfl
        refine XG.blk tX4_letSpansBreak_ok 41 1 (pc' := 81) (pl' := [some (.ref 0), some (.ref 17), some (.int ((nI i) + (nI 1))), some (.int (itN (loadF (itN (brkF a lv (S.1 24) (S.1 31)) R i) (a 32) lv (nI i)) 0 (S.1 31))), none]) (st' := []) (W1 := (rW se9 tv (va_up ta 22 sk9) tb nv na9)) (bs := []) rfl rfl rfl ?_
        simp only [q3]
        refine XG.goto eX4_letSpansBreak_81 (tgt := 2) (by decide) ?_
        refine XG.weak (pl' := [some (.ref 0), some (.ref 17), some (.int (nI (i + 1))), none, none]) ⟨rfl, rfl, rfl, trivial⟩ ?_
        refine ihi _ _ _ ?_
        rw [show (itN (brkF a lv (S.1 24) (S.1 31)) R (i + 1)) = (itN (brkF a lv (S.1 24) (S.1 31)) R i) from if_neg (by obtain ⟨k, hk, he⟩ := bR_n hX.1 hX.2.1 hX.2.2.1 hX.2.2.2.1 (itN (brkF a lv (S.1 24) (S.1 31)) R i) (nI i); rw [show bR a lv (S.1 24) (S.1 31) (itN (brkF a lv (S.1 24) (S.1 31)) R i) (nI i) = nI k from he, h21]; exact nI_nn (by omega))]; exact hN9
      · skip
        refine XG.blk tX4_letSpansBreak_ok 14 4 (pc' := 28) (pl' := [some (.ref 0), some (.ref 17), some (.int (nI i)), some (.int (itN (loadF (itN (brkF a lv (S.1 24) (S.1 31)) R i) (a 32) lv (nI i)) 0 (S.1 31))), none]) (st' := [(.int (nI i)), (.ref 17), (.ref 0), (.int (itN (loadF (itN (brkF a lv (S.1 24) (S.1 31)) R i) (a 32) lv (nI i)) 0 (S.1 31)))]) (W1 := (rW se9 tv (va_up ta 22 sk9) tb nv na9)) (bs := []) rfl rfl rfl ?_
        refine XG.callV0 eX4_letSpansBreak_28 kl_X4_62 (cc_borne (d - 1) se9 tv (va_up ta 22 sk9) tb nv na9 S lv a hX.sk (itN (brkF a lv (S.1 24) (S.1 31)) R i) hN9 (nI i) (by omega)) (px_fitS (by omega)) rfl rfl rfl (Nat.le_of_ble_eq_true rfl) (fun r9 W9 hp9 hl9 => ?_)
        obtain ⟨se1, sk1, rfl, rfl⟩ := hp9
        show XG _ _ _ _ _ _ [(.int (bR a lv (S.1 24) (S.1 31) (itN (brkF a lv (S.1 24) (S.1 31)) R i) (nI i))), (.int (itN (loadF (itN (brkF a lv (S.1 24) (S.1 31)) R i) (a 32) lv (nI i)) 0 (S.1 31)))] (rW se1 tv (va_up ta 22 sk1) tb nv na9)
        refine XG.br eX4_letSpansBreak_31 (P := (bR a lv (S.1 24) (S.1 31) (itN (brkF a lv (S.1 24) (S.1 31)) R i) (nI i)) < (itN (loadF (itN (brkF a lv (S.1 24) (S.1 31)) R i) (a 32) lv (nI i)) 0 (S.1 31))) (r := []) rfl (tgt := 37) (by decide) (fun h31 => ?_) (fun h31 => ?_)
        · skip
          refine XG.blk tX4_letSpansBreak_ok 21 2 (pc' := 40) (pl' := [some (.ref 0), some (.ref 17), some (.int (nI i)), some (.int (itN (loadF (itN (brkF a lv (S.1 24) (S.1 31)) R i) (a 32) lv (nI i)) 0 (S.1 31))), some (.int (nI 0))]) (st' := []) (W1 := (rW se1 tv (va_up ta 22 sk1) tb nv na9)) (bs := []) rfl rfl rfl ?_
          refine px_for (S.1 31) (fun c => ∀ (na8 : Nat → Nat → Int32) (_ : CNt S (itN (fallF i) (itN (brkF a lv (S.1 24) (S.1 31)) R i) c) nv na8), XG mX4_letSpansBreak _ 0 0 40 [some (.ref 0), some (.ref 17), some (.int (nI i)), some (.int (itN (loadF (itN (brkF a lv (S.1 24) (S.1 31)) R i) (a 32) lv (nI i)) 0 (S.1 31))), some (.int (nI c))] [] (rW se1 tv (va_up ta 22 sk1) tb nv na8)) ?_ ?_ 0 (Nat.zero_le _) _ hN9
          · intro na8 hN8
            have q4 : (tv 3) = (nI (S.1 31)) := hcr
            refine XG.blk tX4_letSpansBreak_ok 23 4 (pc' := 49) (pl' := [some (.ref 0), some (.ref 17), some (.int (nI i)), some (.int (itN (loadF (itN (brkF a lv (S.1 24) (S.1 31)) R i) (a 32) lv (nI i)) 0 (S.1 31))), some (.int (nI (S.1 31)))]) (st' := [(.int (tv 3)), (.int (nI (S.1 31)))]) (W1 := (rW se1 tv (va_up ta 22 sk1) tb nv na8)) (bs := []) rfl rfl rfl ?_
            simp only [q4]
            refine XG.br eX4_letSpansBreak_49 (P := (nI (S.1 31)) ≤ (nI (S.1 31))) (r := []) rfl (tgt := 78) (by decide) (fun h49 => ?_) (fun h49 => ?_)
            · skip
              have g49 : (S.1 31) ≤ (S.1 31) := (nI_leI (a := (S.1 31)) (b := (S.1 31)) (by omega) (by omega)).mp h49
              have q5 : ((nI i) + (nI 1)) = (nI (i + 1)) := px_eadd rfl rfl
              refine XG.blk tX4_letSpansBreak_ok 41 1 (pc' := 81) (pl' := [some (.ref 0), some (.ref 17), some (.int ((nI i) + (nI 1))), some (.int (itN (loadF (itN (brkF a lv (S.1 24) (S.1 31)) R i) (a 32) lv (nI i)) 0 (S.1 31))), some (.int (nI (S.1 31)))]) (st' := []) (W1 := (rW se1 tv (va_up ta 22 sk1) tb nv na8)) (bs := []) rfl rfl rfl ?_
              simp only [q5]
              refine XG.goto eX4_letSpansBreak_81 (tgt := 2) (by decide) ?_
              refine XG.weak (pl' := [some (.ref 0), some (.ref 17), some (.int (nI (i + 1))), none, none]) ⟨rfl, rfl, rfl, trivial⟩ ?_
              refine ihi _ _ _ ?_
              rw [show (itN (brkF a lv (S.1 24) (S.1 31)) R (i + 1)) = (itN (fallF i) (itN (brkF a lv (S.1 24) (S.1 31)) R i) (S.1 31)) from if_pos h31]; exact hN8
            · exfalso
              have g49 : ¬ (S.1 31) ≤ (S.1 31) := (fun z => h49 ((nI_leI (a := (S.1 31)) (b := (S.1 31)) (by omega) (by omega)).mpr z))
              omega
          · intro c hc ihc na8 hN8
            have q6 : (tv 3) = (nI (S.1 31)) := hcr
            refine XG.blk tX4_letSpansBreak_ok 23 4 (pc' := 49) (pl' := [some (.ref 0), some (.ref 17), some (.int (nI i)), some (.int (itN (loadF (itN (brkF a lv (S.1 24) (S.1 31)) R i) (a 32) lv (nI i)) 0 (S.1 31))), some (.int (nI c))]) (st' := [(.int (tv 3)), (.int (nI c))]) (W1 := (rW se1 tv (va_up ta 22 sk1) tb nv na8)) (bs := []) rfl rfl rfl ?_
            simp only [q6]
            refine XG.br eX4_letSpansBreak_49 (P := (nI (S.1 31)) ≤ (nI c)) (r := []) rfl (tgt := 78) (by decide) (fun h49 => ?_) (fun h49 => ?_)
            · exfalso
              have g49 : (S.1 31) ≤ c := (nI_leI (a := (S.1 31)) (b := c) (by omega) (by omega)).mp h49
              omega
            · skip
              have g49 : ¬ (S.1 31) ≤ c := (fun z => h49 ((nI_leI (a := (S.1 31)) (b := c) (by omega) (by omega)).mpr z))
              have q7 : (nI c).toNatClampNeg = c := nI_clamp (by omega)
              have q8 : ((na8 7) c) = ((itN (fallF i) (itN (brkF a lv (S.1 24) (S.1 31)) R i) c) (18 + c)) := (hN8.2.2.2.2.2.2 c (by omega)).1
              refine XG.blk tX4_letSpansBreak_ok 28 5 (pc' := 60) (pl' := [some (.ref 0), some (.ref 17), some (.int (nI i)), some (.int (itN (loadF (itN (brkF a lv (S.1 24) (S.1 31)) R i) (a 32) lv (nI i)) 0 (S.1 31))), some (.int (nI c))]) (st' := [(.int (nI i)), (.int ((na8 7) (nI c).toNatClampNeg))]) (W1 := (rW se1 tv (va_up ta 22 sk1) tb nv na8)) (bs := [px_vb (nI c) 5]) rfl rfl (by (try simp only [q7, q8]); exact (px_all (px_vbN (by omega) (by decide)) rfl)) ?_
              simp only [q7, q8]
              refine XG.br eX4_letSpansBreak_60 (P := ¬ ((itN (fallF i) (itN (brkF a lv (S.1 24) (S.1 31)) R i) c) (18 + c)) = (nI i)) (r := []) rfl (tgt := 72) (by decide) (fun h60 => ?_) (fun h60 => ?_)
              · skip
                have q9 : ((nI c) + (nI 1)) = (nI (c + 1)) := px_eadd rfl rfl
                refine XG.blk tX4_letSpansBreak_ok 39 1 (pc' := 75) (pl' := [some (.ref 0), some (.ref 17), some (.int (nI i)), some (.int (itN (loadF (itN (brkF a lv (S.1 24) (S.1 31)) R i) (a 32) lv (nI i)) 0 (S.1 31))), some (.int ((nI c) + (nI 1)))]) (st' := []) (W1 := (rW se1 tv (va_up ta 22 sk1) tb nv na8)) (bs := []) rfl rfl rfl ?_
                simp only [q9]
                refine XG.goto eX4_letSpansBreak_75 (tgt := 40) (by decide) ?_
                refine ihc _ ?_
                rw [show (itN (fallF i) (itN (brkF a lv (S.1 24) (S.1 31)) R i) (c + 1)) = (itN (fallF i) (itN (brkF a lv (S.1 24) (S.1 31)) R i) c) from if_neg h60]; exact hN8
              · skip
                have h60 := Decidable.not_not.mp h60
                have q10 : (nI c).toNatClampNeg = c := nI_clamp (by omega)
                have q11 : ((nI c) + (nI 1)) = (nI (c + 1)) := px_eadd rfl rfl
                refine XG.blk tX4_letSpansBreak_ok 34 6 (pc' := 75) (pl' := [some (.ref 0), some (.ref 17), some (.int (nI i)), some (.int (itN (loadF (itN (brkF a lv (S.1 24) (S.1 31)) R i) (a 32) lv (nI i)) 0 (S.1 31))), some (.int ((nI c) + (nI 1)))]) (st' := []) (W1 := (rW se1 tv (va_up ta 22 sk1) tb nv (va_up na8 7 (upd (na8 7) (nI c).toNatClampNeg (nI 10))))) (bs := [px_vb (nI c) 5]) rfl rfl (by (try simp only [q10, q11]); exact (px_all (px_vbN (by omega) (by decide)) rfl)) ?_
                simp only [q10, q11]
                refine XG.goto eX4_letSpansBreak_75 (tgt := 40) (by decide) ?_
                refine ihc _ ?_
                rw [show (itN (fallF i) (itN (brkF a lv (S.1 24) (S.1 31)) R i) (c + 1)) = upd (itN (fallF i) (itN (brkF a lv (S.1 24) (S.1 31)) R i) c) (18 + c) (nI 10) from if_pos h60]; exact hN8.wh (by omega) _ hsl2
        · skip
          refine XG.goto eX4_letSpansBreak_34 (tgt := 78) (by decide) ?_
          have q12 : ((nI i) + (nI 1)) = (nI (i + 1)) := px_eadd rfl rfl
          refine XG.blk tX4_letSpansBreak_ok 41 1 (pc' := 81) (pl' := [some (.ref 0), some (.ref 17), some (.int ((nI i) + (nI 1))), some (.int (itN (loadF (itN (brkF a lv (S.1 24) (S.1 31)) R i) (a 32) lv (nI i)) 0 (S.1 31))), none]) (st' := []) (W1 := (rW se1 tv (va_up ta 22 sk1) tb nv na9)) (bs := []) rfl rfl rfl ?_
          simp only [q12]
          refine XG.goto eX4_letSpansBreak_81 (tgt := 2) (by decide) ?_
          refine XG.weak (pl' := [some (.ref 0), some (.ref 17), some (.int (nI (i + 1))), none, none]) ⟨rfl, rfl, rfl, trivial⟩ ?_
          refine ihi _ _ _ ?_
          rw [show (itN (brkF a lv (S.1 24) (S.1 31)) R (i + 1)) = (itN (brkF a lv (S.1 24) (S.1 31)) R i) from if_neg h31]; exact hN9
set_option maxHeartbeats 400000 in
theorem go_in (d : Nat) (se : Nat → Int32) (tv : Nat → Int32) (ta : Nat → Nat → Int32) (tb : Nat → Nat → Int64) (nv : Nat → Int32) (na : Nat → Nat → Int32) (S : SD) (lv : Nat) (a : Nat → Nat → Int32) (hX : CX S lv a tv ta) (R : Nat → Int32) (hN : CNt S R nv na) (sk r0 : Nat → Int32) (i : Nat) (hi : i ≤ S.1 23) (hT : ∀ c, c < S.1 31 → TM S r0 i (R (18 + c)) c) (hd : 4 ≤ d) (post : Option Value → px_W → Prop) (hk : ∀ (se' sk' nv' : Nat → Int32) (na' : Nat → Nat → Int32), CNt S (outF a lv (S.1 23) (S.1 24) (S.1 31) r0 i R) nv' na' → XG mX4_letCrossersGo (px_gS d post) 0 0 147 [some (.ref 0), some (.ref 17), some (.int (nI (S.1 23 - i))), some (.int (frI (S.1 23) i)), none] [] (rW se' tv (va_up ta 22 sk') tb nv' na')) : XG mX4_letCrossersGo (px_gS d post) 0 0 28 [some (.ref 0), some (.ref 17), some (.int (nI (S.1 23 - i))), some (.int (frI (S.1 23) i)), some (.int (nI 0))] [] (rW se tv (va_up ta 22 sk) tb nv na) := by
  obtain ⟨hcr, hcr2⟩ := hX.cr
  obtain ⟨hsl, hsl2⟩ := hX.sl
  obtain ⟨hsp, hsp1, hsp2⟩ := hX.sp
  have hWh := hN.2.2.2.2.2.2
  refine px_for (S.1 31) (fun c => ∀ (se9 sk9 nv9 : Nat → Int32) (na9 : Nat → Nat → Int32) (_ : CNt S (itN (moveF a lv (S.1 23) (S.1 24) (S.1 31) r0 (pD (S.1 23) i)) R c) nv9 na9), XG mX4_letCrossersGo _ 0 0 28 [some (.ref 0), some (.ref 17), some (.int (nI (S.1 23 - i))), some (.int (frI (S.1 23) i)), some (.int (nI c))] [] (rW se9 tv (va_up ta 22 sk9) tb nv9 na9)) ?_ ?_ 0 (Nat.zero_le _) _ _ _ _ hN
  · intro se9 sk9 nv9 na9 hN9
    have q1 : (tv 3) = (nI (S.1 31)) := hcr
    refine XG.blk tX4_letCrossersGo_ok 16 4 (pc' := 37) (pl' := [some (.ref 0), some (.ref 17), some (.int (nI (S.1 23 - i))), some (.int (frI (S.1 23) i)), some (.int (nI (S.1 31)))]) (st' := [(.int (tv 3)), (.int (nI (S.1 31)))]) (W1 := (rW se9 tv (va_up ta 22 sk9) tb nv9 na9)) (bs := []) rfl rfl rfl ?_
    simp only [q1]
    refine XG.br eX4_letCrossersGo_37 (P := (nI (S.1 31)) ≤ (nI (S.1 31))) (r := []) rfl (tgt := 147) (by decide) (fun h37 => ?_) (fun h37 => ?_)
    · skip
      have g37 : (S.1 31) ≤ (S.1 31) := (nI_leI (a := (S.1 31)) (b := (S.1 31)) (by omega) (by omega)).mp h37
      refine XG.weak (pl' := [some (.ref 0), some (.ref 17), some (.int (nI (S.1 23 - i))), some (.int (frI (S.1 23) i)), none]) ⟨rfl, rfl, rfl, rfl, trivial⟩ ?_
      exact hk _ _ _ _ hN9
    · exfalso
      have g37 : ¬ (S.1 31) ≤ (S.1 31) := (fun z => h37 ((nI_leI (a := (S.1 31)) (b := (S.1 31)) (by omega) (by omega)).mpr z))
      omega
  · intro c hc ihc se9 sk9 nv9 na9 hN9
    have hq : (itN (moveF a lv (S.1 23) (S.1 24) (S.1 31) r0 (pD (S.1 23) i)) R c) (18 + c) = R (18 + c) := moves_ne c (fun j hj => ⟨by omega, by omega, by omega⟩)
    have hc1 := hT c (by omega) i (Nat.le_refl _) hi
    rw [← hq] at hc1
    have q2 : (tv 3) = (nI (S.1 31)) := hcr
    refine XG.blk tX4_letCrossersGo_ok 16 4 (pc' := 37) (pl' := [some (.ref 0), some (.ref 17), some (.int (nI (S.1 23 - i))), some (.int (frI (S.1 23) i)), some (.int (nI c))]) (st' := [(.int (tv 3)), (.int (nI c))]) (W1 := (rW se9 tv (va_up ta 22 sk9) tb nv9 na9)) (bs := []) rfl rfl rfl ?_
    simp only [q2]
    refine XG.br eX4_letCrossersGo_37 (P := (nI (S.1 31)) ≤ (nI c)) (r := []) rfl (tgt := 147) (by decide) (fun h37 => ?_) (fun h37 => ?_)
    · exfalso
      have g37 : (S.1 31) ≤ c := (nI_leI (a := (S.1 31)) (b := c) (by omega) (by omega)).mp h37
      omega
    · skip
      have g37 : ¬ (S.1 31) ≤ c := (fun z => h37 ((nI_leI (a := (S.1 31)) (b := c) (by omega) (by omega)).mpr z))
      have q3 : (nI c).toNatClampNeg = c := nI_clamp (by omega)
      have q4 : ((na9 7) c) = ((itN (moveF a lv (S.1 23) (S.1 24) (S.1 31) r0 (pD (S.1 23) i)) R c) (18 + c)) := (hN9.2.2.2.2.2.2 c (by omega)).1
      refine XG.blk tX4_letCrossersGo_ok 21 5 (pc' := 48) (pl' := [some (.ref 0), some (.ref 17), some (.int (nI (S.1 23 - i))), some (.int (frI (S.1 23) i)), some (.int (nI c))]) (st' := [(.int (frI (S.1 23) i)), (.int ((na9 7) (nI c).toNatClampNeg))]) (W1 := (rW se9 tv (va_up ta 22 sk9) tb nv9 na9)) (bs := [px_vb (nI c) 5]) rfl rfl (by (try simp only [q3, q4]); exact (px_all (px_vbN (by omega) (by decide)) rfl)) ?_
      simp only [q3, q4]
      refine XG.br eX4_letCrossersGo_48 (P := ((itN (moveF a lv (S.1 23) (S.1 24) (S.1 31) r0 (pD (S.1 23) i)) R c) (18 + c)) = (frI (S.1 23) i)) (r := []) rfl (tgt := 54) (by decide) (fun h48 => ?_) (fun h48 => ?_)
      · skip
        have q5 : (tv 0) = (nI (S.1 23)) := hsp
        refine XG.blk tX4_letCrossersGo_ok 28 4 (pc' := 62) (pl' := [some (.ref 0), some (.ref 17), some (.int (nI (S.1 23 - i))), some (.int (frI (S.1 23) i)), some (.int (nI c))]) (st' := [(.int (tv 0)), (.int (nI (S.1 23 - i)))]) (W1 := (rW se9 tv (va_up ta 22 sk9) tb nv9 na9)) (bs := []) rfl rfl rfl ?_
        simp only [q5]
        refine XG.br eX4_letCrossersGo_62 (P := ¬ (nI (S.1 23 - i)) = (nI (S.1 23))) (r := []) rfl (tgt := 107) (by decide) (fun h62 => ?_) (fun h62 => ?_)
        · skip
          have g62 : ¬ (S.1 23 - i) = (S.1 23) := (fun z => h62 ((nI_eq (a := (S.1 23 - i)) (b := (S.1 23)) (by omega) (by omega)).mpr z))
          refine XG.blk tX4_letCrossersGo_ok 57 3 (pc' := 110) (pl' := [some (.ref 0), some (.ref 17), some (.int (nI (S.1 23 - i))), some (.int (frI (S.1 23) i)), some (.int (nI c))]) (st' := [(.int (nI (S.1 23 - i))), (.ref 17), (.ref 0)]) (W1 := (rW se9 tv (va_up ta 22 sk9) tb nv9 na9)) (bs := []) rfl rfl rfl ?_
          refine XG.callV0 eX4_letCrossersGo_110 kl_X4_151 (cc_loadOn (d - 1) se9 tv (va_up ta 22 sk9) tb nv9 na9 S lv a hX.sk (itN (moveF a lv (S.1 23) (S.1 24) (S.1 31) r0 (pD (S.1 23) i)) R c) hN9 (nI (S.1 23 - i))) (px_fitS (by omega)) rfl rfl rfl (Nat.le_of_ble_eq_true rfl) (fun r9 W9 hp9 hl9 => ?_)
          obtain ⟨rfl, rfl⟩ := hp9
          have q6 : (nI c).toNatClampNeg = c := nI_clamp (by omega)
          have q7 : ((ta 14) c) = (a 32 (5 * lv + c)) := (hX.cro (by omega)).1
          refine XG.blk tX4_letCrossersGo_ok 61 9 (pc' := 127) (pl' := [some (.ref 0), some (.ref 17), some (.int (nI (S.1 23 - i))), some (.int (frI (S.1 23) i)), some (.int (nI c))]) (st' := [(.int (nI (S.1 23 - i))), (.ref 17), (.ref 0), (.int ((itN (loadF (itN (moveF a lv (S.1 23) (S.1 24) (S.1 31) r0 (pD (S.1 23) i)) R c) (a 32) lv (nI (S.1 23 - i))) 0 (S.1 31)) + ((ta 14) (nI c).toNatClampNeg)))]) (W1 := (rW se9 tv (va_up ta 22 sk9) tb nv9 na9)) (bs := [px_vb (nI c) 5]) rfl rfl (by (try simp only [q6, q7]); exact (px_all (px_vbN (by omega) (by decide)) rfl)) ?_
          simp only [q6, q7]
          refine XG.callV0 eX4_letCrossersGo_127 kl_X4_62 (cc_borne (d - 1) se9 tv (va_up ta 22 sk9) tb nv9 na9 S lv a hX.sk (itN (moveF a lv (S.1 23) (S.1 24) (S.1 31) r0 (pD (S.1 23) i)) R c) hN9 (nI (S.1 23 - i)) (by omega)) (px_fitS (by omega)) rfl rfl rfl (Nat.le_of_ble_eq_true rfl) (fun r9 W9 hp9 hl9 => ?_)
          obtain ⟨se1, sk1, rfl, rfl⟩ := hp9
          show XG _ _ _ _ _ _ [(.int (bR a lv (S.1 24) (S.1 31) (itN (moveF a lv (S.1 23) (S.1 24) (S.1 31) r0 (pD (S.1 23) i)) R c) (nI (S.1 23 - i)))), (.int ((itN (loadF (itN (moveF a lv (S.1 23) (S.1 24) (S.1 31) r0 (pD (S.1 23) i)) R c) (a 32) lv (nI (S.1 23 - i))) 0 (S.1 31)) + (a 32 (5 * lv + c))))] (rW se1 tv (va_up ta 22 sk1) tb nv9 na9)
          refine XG.br eX4_letCrossersGo_130 (P := (bR a lv (S.1 24) (S.1 31) (itN (moveF a lv (S.1 23) (S.1 24) (S.1 31) r0 (pD (S.1 23) i)) R c) (nI (S.1 23 - i))) < ((itN (loadF (itN (moveF a lv (S.1 23) (S.1 24) (S.1 31) r0 (pD (S.1 23) i)) R c) (a 32) lv (nI (S.1 23 - i))) 0 (S.1 31)) + (a 32 (5 * lv + c)))) (r := []) rfl (tgt := 141) (by decide) (fun h130 => ?_) (fun h130 => ?_)
          · skip
            have q8 : ((nI c) + (nI 1)) = (nI (c + 1)) := px_eadd rfl rfl
            refine XG.blk tX4_letCrossersGo_ok 77 1 (pc' := 144) (pl' := [some (.ref 0), some (.ref 17), some (.int (nI (S.1 23 - i))), some (.int (frI (S.1 23) i)), some (.int ((nI c) + (nI 1)))]) (st' := []) (W1 := (rW se1 tv (va_up ta 22 sk1) tb nv9 na9)) (bs := []) rfl rfl rfl ?_
            simp only [q8]
            refine XG.goto eX4_letCrossersGo_144 (tgt := 28) (by decide) ?_
            refine ihc _ _ _ _ ?_
            rw [show (itN (moveF a lv (S.1 23) (S.1 24) (S.1 31) r0 (pD (S.1 23) i)) R (c + 1)) = crossF a lv (S.1 23) (S.1 24) (S.1 31) c (wasV r0 c) (itN (moveF a lv (S.1 23) (S.1 24) (S.1 31) r0 (pD (S.1 23) i)) R c) from if_pos (hc1.mp h48), (hc1.mp h48).1]
            unfold crossF
            rw [if_neg (fun z => g62 (by have := (pD_top hsp2 hsp1 hi).mp z; omega)), pD_n hsp2 hi]
            rw [if_pos h130]; exact hN9
          · skip
            have q9 : (nI c).toNatClampNeg = c := nI_clamp (by omega)
            have q10 : ((nI c) + (nI 1)) = (nI (c + 1)) := px_eadd rfl rfl
            refine XG.blk tX4_letCrossersGo_ok 72 6 (pc' := 144) (pl' := [some (.ref 0), some (.ref 17), some (.int (nI (S.1 23 - i))), some (.int (frI (S.1 23) i)), some (.int ((nI c) + (nI 1)))]) (st' := []) (W1 := (rW se1 tv (va_up ta 22 sk1) tb nv9 (va_up na9 7 (upd (na9 7) (nI c).toNatClampNeg (nI (S.1 23 - i)))))) (bs := [px_vb (nI c) 5]) rfl rfl (by (try simp only [q9, q10]); exact (px_all (px_vbN (by omega) (by decide)) rfl)) ?_
            simp only [q9, q10]
            refine XG.goto eX4_letCrossersGo_144 (tgt := 28) (by decide) ?_
            refine ihc _ _ _ _ ?_
            rw [show (itN (moveF a lv (S.1 23) (S.1 24) (S.1 31) r0 (pD (S.1 23) i)) R (c + 1)) = crossF a lv (S.1 23) (S.1 24) (S.1 31) c (wasV r0 c) (itN (moveF a lv (S.1 23) (S.1 24) (S.1 31) r0 (pD (S.1 23) i)) R c) from if_pos (hc1.mp h48), (hc1.mp h48).1]
            unfold crossF
            rw [if_neg (fun z => g62 (by have := (pD_top hsp2 hsp1 hi).mp z; omega)), pD_n hsp2 hi]
            rw [if_neg h130]; exact hN9.wh (by omega) _ hsl2
        · skip
          have h62 := Decidable.not_not.mp h62
          have g62 : (S.1 23 - i) = (S.1 23) := (nI_eq (a := (S.1 23 - i)) (b := (S.1 23)) (by omega) (by omega)).mp h62
          have q11 : (nI c).toNatClampNeg = c := nI_clamp (by omega)
          have q12 : ((na9 8) c) = ((itN (moveF a lv (S.1 23) (S.1 24) (S.1 31) r0 (pD (S.1 23) i)) R c) (23 + c)) := (hN9.2.2.2.2.2.2 c (by omega)).2
          have q13 : (nv9 3) = ((itN (moveF a lv (S.1 23) (S.1 24) (S.1 31) r0 (pD (S.1 23) i)) R c) 31) := hN9.2.2.2.1
          have q14 : ((ta 16) c) = (a 34 (5 * lv + c)) := (hX.cro (by omega)).2.2
          refine XG.blk tX4_letCrossersGo_ok 33 23 (pc' := 104) (pl' := [some (.ref 0), some (.ref 17), some (.int (nI (S.1 23 - i))), some (.int (frI (S.1 23) i)), some (.int (nI c))]) (st' := []) (W1 := (rW se9 tv (va_up ta 22 sk9) tb (va_up nv9 3 ((nv9 3) + ((ta 16) (nI c).toNatClampNeg))) (va_up (va_up na9 7 (upd (na9 7) (nI c).toNatClampNeg (nI 9))) 8 (upd (na9 8) (nI c).toNatClampNeg (((na9 8) (nI c).toNatClampNeg) + (nI 1)))))) (bs := [px_vb (nI c) 5, px_vb (nI c) 5, px_vb (nI c) 5, px_vb (nI c) 5]) rfl rfl (by (try simp only [q11, q12, q13, q14]); exact (px_all (px_vbN (by omega) (by decide)) (px_all (px_vbN (by omega) (by decide)) (px_all (px_vbN (by omega) (by decide)) (px_all (px_vbN (by omega) (by decide)) rfl))))) ?_
          simp only [q11, q12, q13, q14]
          refine XG.goto eX4_letCrossersGo_104 (tgt := 141) (by decide) ?_
          have q15 : ((nI c) + (nI 1)) = (nI (c + 1)) := px_eadd rfl rfl
          refine XG.blk tX4_letCrossersGo_ok 77 1 (pc' := 144) (pl' := [some (.ref 0), some (.ref 17), some (.int (nI (S.1 23 - i))), some (.int (frI (S.1 23) i)), some (.int ((nI c) + (nI 1)))]) (st' := []) (W1 := (rW se9 tv (va_up ta 22 sk9) tb (va_up nv9 3 (((itN (moveF a lv (S.1 23) (S.1 24) (S.1 31) r0 (pD (S.1 23) i)) R c) 31) + (a 34 (5 * lv + c)))) (va_up (va_up na9 7 (upd (na9 7) c (nI 9))) 8 (upd (na9 8) c (((itN (moveF a lv (S.1 23) (S.1 24) (S.1 31) r0 (pD (S.1 23) i)) R c) (23 + c)) + (nI 1)))))) (bs := []) rfl rfl rfl ?_
          simp only [q15]
          refine XG.goto eX4_letCrossersGo_144 (tgt := 28) (by decide) ?_
          refine ihc _ _ _ _ ?_
          rw [show (itN (moveF a lv (S.1 23) (S.1 24) (S.1 31) r0 (pD (S.1 23) i)) R (c + 1)) = crossF a lv (S.1 23) (S.1 24) (S.1 31) c (wasV r0 c) (itN (moveF a lv (S.1 23) (S.1 24) (S.1 31) r0 (pD (S.1 23) i)) R c) from if_pos (hc1.mp h48), (hc1.mp h48).1]
          unfold crossF
          rw [if_pos ((pD_top hsp2 hsp1 hi).mpr (by omega)), overF_eq (by omega)]
          exact ((hN9.wh (by omega) (nI 9) hsl2).ov (by omega) _ hsl2).to _ hsl2
      · skip
        refine XG.goto eX4_letCrossersGo_51 (tgt := 141) (by decide) ?_
        have q16 : ((nI c) + (nI 1)) = (nI (c + 1)) := px_eadd rfl rfl
        refine XG.blk tX4_letCrossersGo_ok 77 1 (pc' := 144) (pl' := [some (.ref 0), some (.ref 17), some (.int (nI (S.1 23 - i))), some (.int (frI (S.1 23) i)), some (.int ((nI c) + (nI 1)))]) (st' := []) (W1 := (rW se9 tv (va_up ta 22 sk9) tb nv9 na9)) (bs := []) rfl rfl rfl ?_
        simp only [q16]
        refine XG.goto eX4_letCrossersGo_144 (tgt := 28) (by decide) ?_
        refine ihc _ _ _ _ ?_
        rw [show (itN (moveF a lv (S.1 23) (S.1 24) (S.1 31) r0 (pD (S.1 23) i)) R (c + 1)) = (itN (moveF a lv (S.1 23) (S.1 24) (S.1 31) r0 (pD (S.1 23) i)) R c) from if_neg (fun z => h48 (hc1.mpr z))]; exact hN9
theorem pD_1 {sp i : Nat} (hs : sp ≤ 5) (hi : i ≤ sp) : pD (sp + 1) i = nI (sp - i) := by
  rw [← pD_n hs hi]
  unfold pD
  rw [show nI 1 = Int32.ofInt 1 from rfl, ← Int32.ofInt_add]
  congr 1
  omega
theorem pD_e {sp : Nat} (hs : sp ≤ 5) : pD (sp + 1) (sp + 1) < 0 := by
  rw [Int32.lt_iff_toInt_lt, show (0 : Int32).toInt = 0 from rfl]
  unfold pD
  rw [Int32.toInt_ofInt_of_le (by omega) (by omega)]
  omega
theorem pD_d {sp i : Nat} (hs : sp ≤ 5) (hi : i ≤ sp) : nI (sp - i) + (-1) = pD (sp + 1) (i + 1) := by
  rw [← pD_1 hs hi]
  unfold pD
  rw [show (-1 : Int32) = Int32.ofInt (-1) from rfl, ← Int32.ofInt_add]
  congr 1
  omega
set_option maxHeartbeats 400000 in
theorem cc_letCrossersGo (d : Nat) (se : Nat → Int32) (tv : Nat → Int32) (ta : Nat → Nat → Int32) (tb : Nat → Nat → Int64) (nv : Nat → Int32) (na : Nat → Nat → Int32) (S : SD) (lv : Nat) (a : Nat → Nat → Int32) (hX : CX S lv a tv ta) (R : Nat → Int32) (hN : CNt S R nv na) (r0 : Nat → Int32) (hT : ∀ c, c < S.1 31 → TM S r0 0 (R (18 + c)) c) (hd : 4 ≤ d) : Con mX4_letCrossersGo d [.ref 0, .ref 17] (rW se tv ta tb nv na) (fun r W' => ∃ se' sk' nv' na', W' = rW se' tv (va_up ta 22 sk') tb nv' na' ∧ CNt S (itN (outF a lv (S.1 23) (S.1 24) (S.1 31) r0) R (S.1 23 + 1)) nv' na' ∧ r = none) := by
  obtain ⟨hcr, hcr2⟩ := hX.cr
  obtain ⟨hsl, hsl2⟩ := hX.sl
  obtain ⟨hsp, hsp1, hsp2⟩ := hX.sp
  have hWh := hN.2.2.2.2.2.2
  refine Con.of (by decide) (Nat.le_of_ble_eq_true rfl) ?_
  have q1 : (tv 0) = (nI (S.1 23)) := hsp
  refine XG.blk tX4_letCrossersGo_ok 0 4 (pc' := 8) (pl' := [some (.ref 0), some (.ref 17), some (.int (tv 0)), none, none]) (st' := []) (W1 := (rW se tv ta tb nv na)) (bs := []) rfl rfl rfl ?_
  simp only [q1]
  rw [show nI (S.1 23) = pD (S.1 23 + 1) 0 from (pD_0 (sp := S.1 23 + 1) (by omega)).symm]
  refine px_for (S.1 23 + 1) (fun i => ∀ (se9 sk9 nv9 : Nat → Int32) (na9 : Nat → Nat → Int32) (_ : CNt S (itN (outF a lv (S.1 23) (S.1 24) (S.1 31) r0) R i) nv9 na9) (_ : ∀ c, c < S.1 31 → TM S r0 i ((itN (outF a lv (S.1 23) (S.1 24) (S.1 31) r0) R i) (18 + c)) c), XG mX4_letCrossersGo _ 0 0 8 [some (.ref 0), some (.ref 17), some (.int (pD (S.1 23 + 1) i)), none, none] [] (rW se9 tv (va_up ta 22 sk9) tb nv9 na9)) ?_ ?_ 0 (Nat.zero_le _) se (ta 22) nv na hN hT
  · intro se9 sk9 nv9 na9 hN9 hT9
    refine XG.blk tX4_letCrossersGo_ok 4 1 (pc' := 9) (pl' := [some (.ref 0), some (.ref 17), some (.int (pD (S.1 23 + 1) (S.1 23 + 1))), none, none]) (st' := [(.int (pD (S.1 23 + 1) (S.1 23 + 1)))]) (W1 := (rW se9 tv (va_up ta 22 sk9) tb nv9 na9)) (bs := []) rfl rfl rfl ?_
    refine XG.br eX4_letCrossersGo_9 (P := (pD (S.1 23 + 1) (S.1 23 + 1)) < 0) (r := []) rfl (tgt := 153) (by decide) (fun h9 => ?_) (fun h9 => ?_)
    · skip
      refine XS.vret eX4_letCrossersGo_153 rfl ?_
      exact ⟨_, _, _, _, rfl, hN9, rfl⟩
    · exfalso
      exact h9 (pD_e hsp2)
  · intro i hi ihi se9 sk9 nv9 na9 hN9 hT9
    rw [pD_1 hsp2 (by omega)]
    refine XG.blk tX4_letCrossersGo_ok 4 1 (pc' := 9) (pl' := [some (.ref 0), some (.ref 17), some (.int (nI (S.1 23 - i))), none, none]) (st' := [(.int (nI (S.1 23 - i)))]) (W1 := (rW se9 tv (va_up ta 22 sk9) tb nv9 na9)) (bs := []) rfl rfl rfl ?_
    refine XG.br eX4_letCrossersGo_9 (P := (nI (S.1 23 - i)) < 0) (r := []) rfl (tgt := 153) (by decide) (fun h9 => ?_) (fun h9 => ?_)
    · exfalso
      have g9 : (S.1 23 - i) < 0 := (nI_ltI (a := (S.1 23 - i)) (b := 0) (by omega) (by omega)).mp h9
      omega
    · skip
      have g9 : ¬ (S.1 23 - i) < 0 := (fun z => h9 ((nI_ltI (a := (S.1 23 - i)) (b := 0) (by omega) (by omega)).mpr z))
      refine XG.blk tX4_letCrossersGo_ok 6 1 (pc' := 13) (pl' := [some (.ref 0), some (.ref 17), some (.int (nI (S.1 23 - i))), none, none]) (st' := [(.int (nI (S.1 23 - i)))]) (W1 := (rW se9 tv (va_up ta 22 sk9) tb nv9 na9)) (bs := []) rfl rfl rfl ?_
      refine XG.br eX4_letCrossersGo_13 (P := ¬ (nI (S.1 23 - i)) = 0) (r := []) rfl (tgt := 21) (by decide) (fun h13 => ?_) (fun h13 => ?_)
      · skip
        have g13 : ¬ (S.1 23 - i) = 0 := (fun z => h13 ((nI_eq (a := (S.1 23 - i)) (b := 0) (by omega) (by omega)).mpr z))
        have q2 : ((nI (S.1 23 - i)) - (nI 1)) = (nI ((S.1 23 - i) - 1)) := px_esub rfl rfl (by omega)
        refine XG.blk tX4_letCrossersGo_ok 10 6 (pc' := 28) (pl' := [some (.ref 0), some (.ref 17), some (.int (nI (S.1 23 - i))), some (.int ((nI (S.1 23 - i)) - (nI 1))), some (.int (nI 0))]) (st' := []) (W1 := (rW se9 tv (va_up ta 22 sk9) tb nv9 na9)) (bs := []) rfl rfl rfl ?_
        simp only [q2]
        rw [show (nI ((S.1 23 - i) - 1)) = frI (S.1 23) i from ((if_neg (by omega)).trans (congrArg nI (by omega))).symm]
        refine go_in d se9 tv ta tb nv9 na9 S lv a hX _ hN9 sk9 r0 i (by omega) hT9 hd _ (fun se8 sk8 nv8 na8 hN8 => ?_)
        refine XG.blk tX4_letCrossersGo_ok 79 1 (pc' := 150) (pl' := [some (.ref 0), some (.ref 17), some (.int ((nI (S.1 23 - i)) + (-1))), some (.int (frI (S.1 23) i)), none]) (st' := []) (W1 := (rW se8 tv (va_up ta 22 sk8) tb nv8 na8)) (bs := []) rfl rfl rfl ?_
        refine XG.goto eX4_letCrossersGo_150 (tgt := 8) (by decide) ?_
        rw [pD_d hsp2 (by omega)]
        refine XG.weak (pl' := [some (.ref 0), some (.ref 17), some (.int (pD (S.1 23 + 1) (i + 1))), none, none]) ⟨rfl, rfl, rfl, trivial⟩ ?_
        exact ihi _ _ _ _ hN8 (TM.out hX.2.2.1 hX.2.1 (by omega) hT9)
      · skip
        have h13 := Decidable.not_not.mp h13
        have g13 : (S.1 23 - i) = 0 := (nI_eq (a := (S.1 23 - i)) (b := 0) (by omega) (by omega)).mp h13
        refine XG.blk tX4_letCrossersGo_ok 8 1 (pc' := 18) (pl' := [some (.ref 0), some (.ref 17), some (.int (nI (S.1 23 - i))), none, none]) (st' := [(.int (-3))]) (W1 := (rW se9 tv (va_up ta 22 sk9) tb nv9 na9)) (bs := []) rfl rfl rfl ?_
        refine XG.goto eX4_letCrossersGo_18 (tgt := 24) (by decide) ?_
        refine XG.blk tX4_letCrossersGo_ok 13 3 (pc' := 28) (pl' := [some (.ref 0), some (.ref 17), some (.int (nI (S.1 23 - i))), some (.int (-3)), some (.int (nI 0))]) (st' := []) (W1 := (rW se9 tv (va_up ta 22 sk9) tb nv9 na9)) (bs := []) rfl rfl rfl ?_
        rw [show (-3 : Int32) = frI (S.1 23) i from (if_pos (by omega)).symm]
        refine go_in d se9 tv ta tb nv9 na9 S lv a hX _ hN9 sk9 r0 i (by omega) hT9 hd _ (fun se8 sk8 nv8 na8 hN8 => ?_)
        refine XG.blk tX4_letCrossersGo_ok 79 1 (pc' := 150) (pl' := [some (.ref 0), some (.ref 17), some (.int ((nI (S.1 23 - i)) + (-1))), some (.int (frI (S.1 23) i)), none]) (st' := []) (W1 := (rW se8 tv (va_up ta 22 sk8) tb nv8 na8)) (bs := []) rfl rfl rfl ?_
        refine XG.goto eX4_letCrossersGo_150 (tgt := 8) (by decide) ?_
        rw [pD_d hsp2 (by omega)]
        refine XG.weak (pl' := [some (.ref 0), some (.ref 17), some (.int (pD (S.1 23 + 1) (i + 1))), none, none]) ⟨rfl, rfl, rfl, trivial⟩ ?_
        exact ihi _ _ _ _ hN8 (TM.out hX.2.2.1 hX.2.1 (by omega) hT9)
set_option maxHeartbeats 400000 in
theorem cc_sleepOn (d : Nat) (se : Nat → Int32) (tv : Nat → Int32) (ta : Nat → Nat → Int32) (tb : Nat → Nat → Int64) (nv : Nat → Int32) (na : Nat → Nat → Int32) (S : SD) (lv : Nat) (a : Nat → Nat → Int32) (hX : CX S lv a tv ta) (R : Nat → Int32) (hN : CNt S R nv na) (v0 : Nat → Int32) (hd : 3 ≤ d) : Con mX4_sleepOn d [.ref 0, .ref 17, .int (v0 57), .int (v0 56)] (rW se tv ta tb nv na) (fun r W' => ∃ se' sk' dp', W' = rW se' tv (va_up ta 22 sk') tb (va_up nv 4 ((nI (aslN S R)) &&& ((nI (mkN (wkB v0 a lv S R) (S.1 24))) ^^^ (-1)))) (va_up na 5 dp') ∧ (∀ j, j < S.1 24 → dp' j = dpF v0 a lv (S.1 24) (S.1 31) R j) ∧ r = none) := by
  obtain ⟨hcr, hcr2⟩ := hX.cr
  obtain ⟨hsl, hsl2⟩ := hX.sl
  obtain ⟨hsp, hsp1, hsp2⟩ := hX.sp
  have hWh := hN.2.2.2.2.2.2
  have hm : (aslN S R) < 64 := mkN_64 hsl2
  refine Con.of (by decide) (Nat.le_of_ble_eq_true rfl) ?_
  refine XG.blk tX4_sleepOn_ok 0 4 (pc' := 6) (pl' := [some (.ref 0), some (.ref 17), some (.int (v0 57)), some (.int (v0 56)), some (.int (nI 0)), some (.int (nI 0))]) (st' := []) (W1 := (rW se tv ta tb nv na)) (bs := []) rfl rfl rfl ?_
  refine px_for (S.1 24) (fun i => ∀ (se9 sk9 dp9 : Nat → Int32) (_ : ∀ j, j < S.1 24 → dp9 j = (dRw v0 a lv S R i) j), XG mX4_sleepOn _ 0 0 6 [some (.ref 0), some (.ref 17), some (.int (v0 57)), some (.int (v0 56)), some (.int (nI (mkN (wkB v0 a lv S R) i))), some (.int (nI i))] [] (rW se9 tv (va_up ta 22 sk9) tb nv (va_up na 5 dp9))) ?_ ?_ 0 (Nat.zero_le _) se (ta 22) (na 5) (fun j hj => ((hN.2.2.2.2.2.1 j hj).1).trans (dRw_ge (Nat.zero_le _)).symm)
  · intro se9 sk9 dp9 hdp9
    have q1 : (tv 1) = (nI (S.1 24)) := hsl
    refine XG.blk tX4_sleepOn_ok 4 4 (pc' := 15) (pl' := [some (.ref 0), some (.ref 17), some (.int (v0 57)), some (.int (v0 56)), some (.int (nI (mkN (wkB v0 a lv S R) (S.1 24)))), some (.int (nI (S.1 24)))]) (st' := [(.int (tv 1)), (.int (nI (S.1 24)))]) (W1 := (rW se9 tv (va_up ta 22 sk9) tb nv (va_up na 5 dp9))) (bs := []) rfl rfl rfl ?_
    simp only [q1]
    refine XG.br eX4_sleepOn_15 (P := (nI (S.1 24)) ≤ (nI (S.1 24))) (r := []) rfl (tgt := 108) (by decide) (fun h15 => ?_) (fun h15 => ?_)
    · skip
      have g15 : (S.1 24) ≤ (S.1 24) := (nI_leI (a := (S.1 24)) (b := (S.1 24)) (by omega) (by omega)).mp h15
      have q2 : (nv 4) = (nI (aslN S R)) := hN.2.2.2.2.1
      refine XG.blk tX4_sleepOn_ok 57 8 (pc' := 121) (pl' := [some (.ref 0), some (.ref 17), some (.int (v0 57)), some (.int (v0 56)), some (.int (nI (mkN (wkB v0 a lv S R) (S.1 24)))), some (.int (nI (S.1 24)))]) (st' := []) (W1 := (rW se9 tv (va_up ta 22 sk9) tb (va_up nv 4 ((nv 4) &&& ((nI (mkN (wkB v0 a lv S R) (S.1 24))) ^^^ (-1)))) (va_up na 5 dp9))) (bs := []) rfl rfl rfl ?_
      simp only [q2]
      refine XS.vret eX4_sleepOn_121 rfl ?_
      exact ⟨_, _, _, rfl, fun j hj => (hdp9 j hj).trans (if_pos hj), rfl⟩
    · exfalso
      have g15 : ¬ (S.1 24) ≤ (S.1 24) := (fun z => h15 ((nI_leI (a := (S.1 24)) (b := (S.1 24)) (by omega) (by omega)).mpr z))
      omega
  · intro i hi ihi se9 sk9 dp9 hdp9
    have q3 : (tv 1) = (nI (S.1 24)) := hsl
    refine XG.blk tX4_sleepOn_ok 4 4 (pc' := 15) (pl' := [some (.ref 0), some (.ref 17), some (.int (v0 57)), some (.int (v0 56)), some (.int (nI (mkN (wkB v0 a lv S R) i))), some (.int (nI i))]) (st' := [(.int (tv 1)), (.int (nI i))]) (W1 := (rW se9 tv (va_up ta 22 sk9) tb nv (va_up na 5 dp9))) (bs := []) rfl rfl rfl ?_
    simp only [q3]
    refine XG.br eX4_sleepOn_15 (P := (nI (S.1 24)) ≤ (nI i)) (r := []) rfl (tgt := 108) (by decide) (fun h15 => ?_) (fun h15 => ?_)
    · exfalso
      have g15 : (S.1 24) ≤ i := (nI_leI (a := (S.1 24)) (b := i) (by omega) (by omega)).mp h15
      omega
    · skip
      have g15 : ¬ (S.1 24) ≤ i := (fun z => h15 ((nI_leI (a := (S.1 24)) (b := i) (by omega) (by omega)).mpr z))
      have q4 : (nv 4) = (nI (aslN S R)) := hN.2.2.2.2.1
      refine XG.blk tX4_sleepOn_ok 9 6 (pc' := 27) (pl' := [some (.ref 0), some (.ref 17), some (.int (v0 57)), some (.int (v0 56)), some (.int (nI (mkN (wkB v0 a lv S R) i))), some (.int (nI i))]) (st' := [(.int (((nv 4) >>> ((nI i) &&& 31)) &&& (nI 1)))]) (W1 := (rW se9 tv (va_up ta 22 sk9) tb nv (va_up na 5 dp9))) (bs := []) rfl rfl rfl ?_
      simp only [q4]
      refine XG.br eX4_sleepOn_27 (P := ¬ (((nI (aslN S R)) >>> ((nI i) &&& 31)) &&& (nI 1)) = 0) (r := []) rfl (tgt := 33) (by decide) (fun h27 => ?_) (fun h27 => ?_)
      · skip
        have hxs : slp R (nI (S.1 35)) i := Decidable.not_not.mp (fun z => h27 ((bitZ' hm (by omega)).mpr ((asl_bitF (S := S) (R := R) (by omega)).mpr z)))
        have hxd : slp (dRw v0 a lv S R i) (nI (S.1 35)) i := (dR_slp (by omega)).mpr hxs
        have hN9 := hN.dR hsl2 v0 a lv (i := i) (by omega) hdp9
        have hwk : ∀ k lo hh, k < 3 → aV S lv a (dRw v0 a lv S R i) k ((dRw v0 a lv S R i) (12 + i)) (bN S (dRw v0 a lv S R i) i) i lo hh = aR a lv (S.1 24) (S.1 31) R k i (plV R k i) lo hh := fun k lo hh hk => dR_aV hX.1 hX.2.1 hX.2.2.2.1 (by omega) hxs hk lo hh
        refine XG.blk tX4_sleepOn_ok 17 3 (pc' := 37) (pl' := [some (.ref 0), some (.ref 17), some (.int (v0 57)), some (.int (v0 56)), some (.int (nI (mkN (wkB v0 a lv S R) i))), some (.int (nI i))]) (st' := [(.int (nI i)), (.ref 17), (.ref 0)]) (W1 := (rW se9 tv (va_up ta 22 sk9) tb nv (va_up na 5 dp9))) (bs := []) rfl rfl rfl ?_
        refine XG.callV0 eX4_sleepOn_37 kl_X4_105 (cc_lookAsItLies (d - 1) se9 tv (va_up ta 22 sk9) tb nv (va_up na 5 dp9) S lv a hX.sk (dRw v0 a lv S R i) hN9 i (by omega) hxd (by omega)) (px_fitS (by omega)) rfl rfl rfl (Nat.le_of_ble_eq_true rfl) (fun r9 W9 hp9 hl9 => ?_)
        obtain ⟨se1, rfl, hL1, rfl⟩ := hp9
        show XG _ _ _ _ _ _ [] (rW se1 tv (va_up ta 22 sk9) tb nv (va_up na 5 dp9))
        refine XG.blk tX4_sleepOn_ok 21 1 (pc' := 41) (pl' := [some (.ref 0), some (.ref 17), some (.int (v0 57)), some (.int (v0 56)), some (.int (nI (mkN (wkB v0 a lv S R) i))), some (.int (nI i))]) (st' := [(.int (v0 57))]) (W1 := (rW se1 tv (va_up ta 22 sk9) tb nv (va_up na 5 dp9))) (bs := []) rfl rfl rfl ?_
        refine XG.br eX4_sleepOn_41 (P := ¬ (v0 57) = 0) (r := []) rfl (tgt := 77) (by decide) (fun h41 => ?_) (fun h41 => ?_)
        · skip
          have q5 : (nI i).toNatClampNeg = i := nI_clamp (by omega)
          have q6 : (dp9 i) = (R i) := (hdp9 i (by omega)).trans (dRw_ge (Nat.le_refl _))
          refine XG.blk tX4_sleepOn_ok 41 8 (pc' := 91) (pl' := [some (.ref 0), some (.ref 17), some (.int (v0 57)), some (.int (v0 56)), some (.int (nI (mkN (wkB v0 a lv S R) i))), some (.int (nI i))]) (st' := [(.ref 0), (.int (dp9 (nI i).toNatClampNeg)), (.int (nI i)), (.ref 18)]) (W1 := (rW se1 tv (va_up ta 22 sk9) tb nv (va_up na 5 dp9))) (bs := [px_vb (nI i) 6]) rfl rfl (by (try simp only [q5, q6]); exact (px_all (px_vbN (by omega) (by decide)) rfl)) ?_
          simp only [q5, q6]
          refine XG.callV0 eX4_sleepOn_91 kl_X4_112 (cc_deepening (d - 1) se1 tv (va_up ta 22 sk9) tb nv (va_up na 5 dp9) S lv a hX.sk (dRw v0 a lv S R i) _ _ _ hL1 (by omega)) (px_fitS (by omega)) rfl rfl rfl (Nat.le_of_ble_eq_true rfl) (fun r9 W9 hp9 hl9 => ?_)
          obtain ⟨sk2, rfl, rfl⟩ := hp9
          show XG _ _ _ _ _ _ [(.int (aV S lv a (dRw v0 a lv S R i) 2 ((dRw v0 a lv S R i) (12 + i)) (bN S (dRw v0 a lv S R i) i) i (-9) (nI 9))), (.int (R i)), (.int (nI i)), (.ref 18)] (rW se1 tv (va_up ta 22 sk2) tb nv (va_up na 5 dp9))
          refine XG.blk tX4_sleepOn_ok 50 3 (pc' := 98) (pl' := [some (.ref 0), some (.ref 17), some (.int (v0 57)), some (.int (v0 56)), some (.int (nI (mkN (wkB v0 a lv S R) i))), some (.int (nI i))]) (st' := [(.int (nI 99)), (.int (nI 0)), (.int ((R i) + (aV S lv a (dRw v0 a lv S R i) 2 ((dRw v0 a lv S R i) (12 + i)) (bN S (dRw v0 a lv S R i) i) i (-9) (nI 9)))), (.int (nI i)), (.ref 18)]) (W1 := (rW se1 tv (va_up ta 22 sk2) tb nv (va_up na 5 dp9))) (bs := []) rfl rfl rfl ?_
          refine XG.callNp (r := some (.int (heldF ((R i) + (aV S lv a (dRw v0 a lv S R i) 2 ((dRw v0 a lv S R i) (12 + i)) (bN S (dRw v0 a lv S R i) i) i (-9) (nI 9))) (nI 0) (nI 99)))) eX4_sleepOn_98 kl_X4_98 (con_within (d - 1) ((R i) + (aV S lv a (dRw v0 a lv S R i) 2 ((dRw v0 a lv S R i) (12 + i)) (bN S (dRw v0 a lv S R i) i) i (-9) (nI 9))) (nI 0) (nI 99)) (px_fitS (by omega)) rfl rfl rfl rfl (Nat.le_of_ble_eq_true rfl) ?_
          have q7 : (nI i).toNatClampNeg = i := nI_clamp (by omega)
          have q8 : ((nI i) + (nI 1)) = (nI (i + 1)) := px_eadd rfl rfl
          refine XG.blk tX4_sleepOn_ok 54 2 (pc' := 105) (pl' := [some (.ref 0), some (.ref 17), some (.int (v0 57)), some (.int (v0 56)), some (.int (nI (mkN (wkB v0 a lv S R) i))), some (.int ((nI i) + (nI 1)))]) (st' := []) (W1 := (rW se1 tv (va_up ta 22 sk2) tb nv (va_up na 5 (upd dp9 (nI i).toNatClampNeg (heldF ((R i) + (aV S lv a (dRw v0 a lv S R i) 2 ((dRw v0 a lv S R i) (12 + i)) (bN S (dRw v0 a lv S R i) i) i (-9) (nI 9))) (nI 0) (nI 99)))))) (bs := [px_vb (nI i) 6]) rfl rfl (by (try simp only [q7, q8]); exact (px_all (px_vbN (by omega) (by decide)) rfl)) ?_
          simp only [q7, q8]
          refine XG.goto eX4_sleepOn_105 (tgt := 6) (by decide) ?_
          have hw : ¬ wkP v0 a lv (S.1 24) (S.1 31) R i := fun z => h41 z.2.1
          rw [show (mkN (wkB v0 a lv S R) (i + 1)) = (mkN (wkB v0 a lv S R) i) from if_neg (by simpa [wkB] using hw)] at ihi
          refine ihi _ _ _ (fun j hj => ?_)
          rw [dRw_s]
          by_cases e : j = i
          · subst e
            rw [if_pos rfl, upd_eq]
            unfold dpF
            rw [if_pos ⟨by rw [hX.dw.2.2]; exact hxs, hw⟩, hwk 2 _ _ (by decide)]
            rfl
          · rw [if_neg e, upd_ne e]; exact hdp9 j hj
        · skip
          have h41 := Decidable.not_not.mp h41
          have q9 : (nv 2) = (R 30) := hN.2.2.1
          refine XG.blk tX4_sleepOn_ok 23 7 (pc' := 55) (pl' := [some (.ref 0), some (.ref 17), some (.int (v0 57)), some (.int (v0 56)), some (.int (nI (mkN (wkB v0 a lv S R) i))), some (.int (nI i))]) (st' := [(.int (((nI 16) * (nv 2)) + (nI i))), (.int (v0 56))]) (W1 := (rW se1 tv (va_up ta 22 sk9) tb nv (va_up na 5 dp9))) (bs := []) rfl rfl rfl ?_
          simp only [q9]
          refine XG.callSp (r := some (.int (lotF (v0 56) (((nI 16) * (R 30)) + (nI i))))) eX4_sleepOn_55 kl_X4_144 (cc_lotOf100 (d - 1) (v0 56) (((nI 16) * (R 30)) + (nI i)) (by omega)) (px_fitS (by omega)) rfl rfl rfl rfl (Nat.le_of_ble_eq_true rfl) ?_
          refine XG.blk tX4_sleepOn_ok 31 1 (pc' := 59) (pl' := [some (.ref 0), some (.ref 17), some (.int (v0 57)), some (.int (v0 56)), some (.int (nI (mkN (wkB v0 a lv S R) i))), some (.int (nI i))]) (st' := [(.ref 0), (.int (lotF (v0 56) (((nI 16) * (R 30)) + (nI i))))]) (W1 := (rW se1 tv (va_up ta 22 sk9) tb nv (va_up na 5 dp9))) (bs := []) rfl rfl rfl ?_
          refine XG.callV0 eX4_sleepOn_59 kl_X4_108 (cc_waking (d - 1) se1 tv (va_up ta 22 sk9) tb nv (va_up na 5 dp9) S lv a hX.sk (dRw v0 a lv S R i) _ _ _ hL1 (by omega)) (px_fitS (by omega)) rfl rfl rfl (Nat.le_of_ble_eq_true rfl) (fun r9 W9 hp9 hl9 => ?_)
          obtain ⟨sk2, rfl, rfl⟩ := hp9
          show XG _ _ _ _ _ _ [(.int (aV S lv a (dRw v0 a lv S R i) 1 ((dRw v0 a lv S R i) (12 + i)) (bN S (dRw v0 a lv S R i) i) i (nI 0) (nI 100))), (.int (lotF (v0 56) (((nI 16) * (R 30)) + (nI i))))] (rW se1 tv (va_up ta 22 sk2) tb nv (va_up na 5 dp9))
          refine XG.br eX4_sleepOn_62 (P := (aV S lv a (dRw v0 a lv S R i) 1 ((dRw v0 a lv S R i) (12 + i)) (bN S (dRw v0 a lv S R i) i) i (nI 0) (nI 100)) ≤ (lotF (v0 56) (((nI 16) * (R 30)) + (nI i)))) (r := []) rfl (tgt := 77) (by decide) (fun h62 => ?_) (fun h62 => ?_)
          · skip
            have q10 : (nI i).toNatClampNeg = i := nI_clamp (by omega)
            have q11 : (dp9 i) = (R i) := (hdp9 i (by omega)).trans (dRw_ge (Nat.le_refl _))
            refine XG.blk tX4_sleepOn_ok 41 8 (pc' := 91) (pl' := [some (.ref 0), some (.ref 17), some (.int (v0 57)), some (.int (v0 56)), some (.int (nI (mkN (wkB v0 a lv S R) i))), some (.int (nI i))]) (st' := [(.ref 0), (.int (dp9 (nI i).toNatClampNeg)), (.int (nI i)), (.ref 18)]) (W1 := (rW se1 tv (va_up ta 22 sk2) tb nv (va_up na 5 dp9))) (bs := [px_vb (nI i) 6]) rfl rfl (by (try simp only [q10, q11]); exact (px_all (px_vbN (by omega) (by decide)) rfl)) ?_
            simp only [q10, q11]
            refine XG.callV0 eX4_sleepOn_91 kl_X4_112 (cc_deepening (d - 1) se1 tv (va_up ta 22 sk2) tb nv (va_up na 5 dp9) S lv a hX.sk (dRw v0 a lv S R i) _ _ _ hL1 (by omega)) (px_fitS (by omega)) rfl rfl rfl (Nat.le_of_ble_eq_true rfl) (fun r9 W9 hp9 hl9 => ?_)
            obtain ⟨sk3, rfl, rfl⟩ := hp9
            show XG _ _ _ _ _ _ [(.int (aV S lv a (dRw v0 a lv S R i) 2 ((dRw v0 a lv S R i) (12 + i)) (bN S (dRw v0 a lv S R i) i) i (-9) (nI 9))), (.int (R i)), (.int (nI i)), (.ref 18)] (rW se1 tv (va_up ta 22 sk3) tb nv (va_up na 5 dp9))
            refine XG.blk tX4_sleepOn_ok 50 3 (pc' := 98) (pl' := [some (.ref 0), some (.ref 17), some (.int (v0 57)), some (.int (v0 56)), some (.int (nI (mkN (wkB v0 a lv S R) i))), some (.int (nI i))]) (st' := [(.int (nI 99)), (.int (nI 0)), (.int ((R i) + (aV S lv a (dRw v0 a lv S R i) 2 ((dRw v0 a lv S R i) (12 + i)) (bN S (dRw v0 a lv S R i) i) i (-9) (nI 9)))), (.int (nI i)), (.ref 18)]) (W1 := (rW se1 tv (va_up ta 22 sk3) tb nv (va_up na 5 dp9))) (bs := []) rfl rfl rfl ?_
            refine XG.callNp (r := some (.int (heldF ((R i) + (aV S lv a (dRw v0 a lv S R i) 2 ((dRw v0 a lv S R i) (12 + i)) (bN S (dRw v0 a lv S R i) i) i (-9) (nI 9))) (nI 0) (nI 99)))) eX4_sleepOn_98 kl_X4_98 (con_within (d - 1) ((R i) + (aV S lv a (dRw v0 a lv S R i) 2 ((dRw v0 a lv S R i) (12 + i)) (bN S (dRw v0 a lv S R i) i) i (-9) (nI 9))) (nI 0) (nI 99)) (px_fitS (by omega)) rfl rfl rfl rfl (Nat.le_of_ble_eq_true rfl) ?_
            have q12 : (nI i).toNatClampNeg = i := nI_clamp (by omega)
            have q13 : ((nI i) + (nI 1)) = (nI (i + 1)) := px_eadd rfl rfl
            refine XG.blk tX4_sleepOn_ok 54 2 (pc' := 105) (pl' := [some (.ref 0), some (.ref 17), some (.int (v0 57)), some (.int (v0 56)), some (.int (nI (mkN (wkB v0 a lv S R) i))), some (.int ((nI i) + (nI 1)))]) (st' := []) (W1 := (rW se1 tv (va_up ta 22 sk3) tb nv (va_up na 5 (upd dp9 (nI i).toNatClampNeg (heldF ((R i) + (aV S lv a (dRw v0 a lv S R i) 2 ((dRw v0 a lv S R i) (12 + i)) (bN S (dRw v0 a lv S R i) i) i (-9) (nI 9))) (nI 0) (nI 99)))))) (bs := [px_vb (nI i) 6]) rfl rfl (by (try simp only [q12, q13]); exact (px_all (px_vbN (by omega) (by decide)) rfl)) ?_
            simp only [q12, q13]
            refine XG.goto eX4_sleepOn_105 (tgt := 6) (by decide) ?_
            have hw : ¬ wkP v0 a lv (S.1 24) (S.1 31) R i := fun z => Int32.not_lt.mpr h62 (by rw [hwk 1 _ _ (by decide)]; exact z.2.2)
            rw [show (mkN (wkB v0 a lv S R) (i + 1)) = (mkN (wkB v0 a lv S R) i) from if_neg (by simpa [wkB] using hw)] at ihi
            refine ihi _ _ _ (fun j hj => ?_)
            rw [dRw_s]
            by_cases e : j = i
            · subst e
              rw [if_pos rfl, upd_eq]
              unfold dpF
              rw [if_pos ⟨by rw [hX.dw.2.2]; exact hxs, hw⟩, hwk 2 _ _ (by decide)]
              rfl
            · rw [if_neg e, upd_ne e]; exact hdp9 j hj
          · skip
            refine XG.blk tX4_sleepOn_ok 34 6 (pc' := 74) (pl' := [some (.ref 0), some (.ref 17), some (.int (v0 57)), some (.int (v0 56)), some (.int ((nI (mkN (wkB v0 a lv S R) i)) ||| ((nI 1) <<< ((nI i) &&& 31)))), some (.int (nI i))]) (st' := []) (W1 := (rW se1 tv (va_up ta 22 sk2) tb nv (va_up na 5 dp9))) (bs := []) rfl rfl rfl ?_
            refine XG.goto eX4_sleepOn_74 (tgt := 102) (by decide) ?_
            have q14 : ((nI i) + (nI 1)) = (nI (i + 1)) := px_eadd rfl rfl
            refine XG.blk tX4_sleepOn_ok 55 1 (pc' := 105) (pl' := [some (.ref 0), some (.ref 17), some (.int (v0 57)), some (.int (v0 56)), some (.int ((nI (mkN (wkB v0 a lv S R) i)) ||| ((nI 1) <<< ((nI i) &&& 31)))), some (.int ((nI i) + (nI 1)))]) (st' := []) (W1 := (rW se1 tv (va_up ta 22 sk2) tb nv (va_up na 5 dp9))) (bs := []) rfl rfl rfl ?_
            simp only [q14]
            refine XG.goto eX4_sleepOn_105 (tgt := 6) (by decide) ?_
            have hw : wkP v0 a lv (S.1 24) (S.1 31) R i := ⟨by rw [hX.dw.2.2]; exact hxs, h41, by have h9 := Int32.not_le.mp h62; rw [hwk 1 _ _ (by decide)] at h9; exact h9⟩
            rw [show (mkN (wkB v0 a lv S R) (i + 1)) = (mkN (wkB v0 a lv S R) i) + 2 ^ i from if_pos (decide_eq_true hw), ← mkN_or (by omega)] at ihi
            refine ihi _ _ _ (fun j hj => ?_)
            rw [dRw_s]
            by_cases e : j = i
            · subst e
              rw [if_pos rfl, hdp9 j hj, dRw_ge (Nat.le_refl _)]
              unfold dpF
              rw [if_neg (fun z => z.2 hw)]
            · rw [if_neg e]; exact hdp9 j hj
      · skip
        have h27 := Decidable.not_not.mp h27
        refine XG.goto eX4_sleepOn_30 (tgt := 102) (by decide) ?_
        have q15 : ((nI i) + (nI 1)) = (nI (i + 1)) := px_eadd rfl rfl
        refine XG.blk tX4_sleepOn_ok 55 1 (pc' := 105) (pl' := [some (.ref 0), some (.ref 17), some (.int (v0 57)), some (.int (v0 56)), some (.int (nI (mkN (wkB v0 a lv S R) i))), some (.int ((nI i) + (nI 1)))]) (st' := []) (W1 := (rW se9 tv (va_up ta 22 sk9) tb nv (va_up na 5 dp9))) (bs := []) rfl rfl rfl ?_
        simp only [q15]
        refine XG.goto eX4_sleepOn_105 (tgt := 6) (by decide) ?_
        have hxs : ¬ slp R (nI (S.1 35)) i := (asl_bitF (S := S) (R := R) (by omega)).mp ((bitZ' hm (by omega)).mp h27)
        have hw : ¬ wkP v0 a lv (S.1 24) (S.1 31) R i := fun z => hxs (by have := z.1; rw [hX.dw.2.2] at this; exact this)
        rw [show (mkN (wkB v0 a lv S R) (i + 1)) = (mkN (wkB v0 a lv S R) i) from if_neg (by simpa [wkB] using hw)] at ihi
        refine ihi _ _ _ (fun j hj => ?_)
        rw [dRw_s]
        by_cases e : j = i
        · subst e
          rw [if_pos rfl, hdp9 j hj, dRw_ge (Nat.le_refl _)]
          unfold dpF
          rw [if_neg (fun z => hxs (by have := z.1; rw [hX.dw.2.2] at this; exact this))]
        · rw [if_neg e]; exact hdp9 j hj
set_option maxHeartbeats 400000 in
theorem cc_passHours (d : Nat) (se : Nat → Int32) (tv : Nat → Int32) (ta : Nat → Nat → Int32) (tb : Nat → Nat → Int64) (nv : Nat → Int32) (na : Nat → Nat → Int32) (S : SD) (lv : Nat) (a : Nat → Nat → Int32) (hX : CX S lv a tv ta) (R : Nat → Int32) (hN : CNt S R nv na) (v0 : Nat → Int32) (n H : Nat) (hn : n < 10000) (hG : GR S H R) (hH : H ≤ 100000) (hd : 5 ≤ d) : Con mX4_passHours d [.ref 0, .ref 17, .int (nI n), .int (v0 57), .int (v0 56)] (rW se tv ta tb nv na) (fun r W' => ∃ se' sk' nv' na', W' = rW se' tv (va_up ta 22 sk') tb nv' na' ∧ CNt S (snR v0 a lv (S.1 23) (S.1 24) (S.1 31) R n) nv' na' ∧ r = none) := by
  obtain ⟨hcr, hcr2⟩ := hX.cr
  obtain ⟨hsl, hsl2⟩ := hX.sl
  obtain ⟨hsp, hsp1, hsp2⟩ := hX.sp
  have hWh := hN.2.2.2.2.2.2
  refine Con.of (by decide) (Nat.le_of_ble_eq_true rfl) ?_
  refine XG.blk tX4_passHours_ok 0 2 (pc' := 3) (pl' := [some (.ref 0), some (.ref 17), some (.int (nI n)), some (.int (v0 57)), some (.int (v0 56)), some (.int (nI 0))]) (st' := []) (W1 := (rW se tv ta tb nv na)) (bs := []) rfl rfl rfl ?_
  refine px_for n (fun i => ∀ (se9 sk9 nv9 : Nat → Int32) (na9 : Nat → Nat → Int32) (_ : CNt S (snR v0 a lv (S.1 23) (S.1 24) (S.1 31) R i) nv9 na9), XG mX4_passHours _ 0 0 3 [some (.ref 0), some (.ref 17), some (.int (nI n)), some (.int (v0 57)), some (.int (v0 56)), some (.int (nI i))] [] (rW se9 tv (va_up ta 22 sk9) tb nv9 na9)) ?_ ?_ 0 (Nat.zero_le _) se (ta 22) nv na hN
  · intro se9 sk9 nv9 na9 hN9
    refine XG.blk tX4_passHours_ok 2 2 (pc' := 6) (pl' := [some (.ref 0), some (.ref 17), some (.int (nI n)), some (.int (v0 57)), some (.int (v0 56)), some (.int (nI n))]) (st' := [(.int (nI n)), (.int (nI n))]) (W1 := (rW se9 tv (va_up ta 22 sk9) tb nv9 na9)) (bs := []) rfl rfl rfl ?_
    refine XG.br eX4_passHours_6 (P := (nI n) ≤ (nI n)) (r := []) rfl (tgt := 74) (by decide) (fun h6 => ?_) (fun h6 => ?_)
    · skip
      have g6 : n ≤ n := (nI_leI (a := n) (b := n) (by omega) (by omega)).mp h6
      refine XS.vret eX4_passHours_74 rfl ?_
      exact ⟨_, _, _, _, rfl, hN9, rfl⟩
    · exfalso
      have g6 : ¬ n ≤ n := (fun z => h6 ((nI_leI (a := n) (b := n) (by omega) (by omega)).mpr z))
      omega
  · intro i hi ihi se9 sk9 nv9 na9 hN9
    refine XG.blk tX4_passHours_ok 2 2 (pc' := 6) (pl' := [some (.ref 0), some (.ref 17), some (.int (nI n)), some (.int (v0 57)), some (.int (v0 56)), some (.int (nI i))]) (st' := [(.int (nI n)), (.int (nI i))]) (W1 := (rW se9 tv (va_up ta 22 sk9) tb nv9 na9)) (bs := []) rfl rfl rfl ?_
    refine XG.br eX4_passHours_6 (P := (nI n) ≤ (nI i)) (r := []) rfl (tgt := 74) (by decide) (fun h6 => ?_) (fun h6 => ?_)
    · exfalso
      have g6 : n ≤ i := (nI_leI (a := n) (b := i) (by omega) (by omega)).mp h6
      omega
    · skip
      have g6 : ¬ n ≤ i := (fun z => h6 ((nI_leI (a := n) (b := i) (by omega) (by omega)).mpr z))
      obtain ⟨hV9, h9, hh9, hh28⟩ := hG.hours hX.2.1 hX.2.2.1 v0 a lv i
      refine XG.blk tX4_passHours_ok 5 4 (pc' := 14) (pl' := [some (.ref 0), some (.ref 17), some (.int (nI n)), some (.int (v0 57)), some (.int (v0 56)), some (.int (nI i))]) (st' := [(.int (v0 56)), (.int (v0 57)), (.ref 17), (.ref 0)]) (W1 := (rW se9 tv (va_up ta 22 sk9) tb nv9 na9)) (bs := []) rfl rfl rfl ?_
      refine XG.callV0 eX4_passHours_14 kl_X4_127 (cc_sleepOn (d - 1) se9 tv (va_up ta 22 sk9) tb nv9 na9 S lv a hX.sk (snR v0 a lv (S.1 23) (S.1 24) (S.1 31) R i) hN9 v0 (by omega)) (px_fitS (by omega)) rfl rfl rfl (Nat.le_of_ble_eq_true rfl) (fun r9 W9 hp9 hl9 => ?_)
      obtain ⟨se1, sk1, dp1, rfl, hdp1, rfl⟩ := hp9
      show XG _ _ _ _ _ _ [] (rW se1 tv (va_up ta 22 sk1) tb (va_up nv9 4 ((nI (aslN S (snR v0 a lv (S.1 23) (S.1 24) (S.1 31) R i))) &&& ((nI (mkN (wkB v0 a lv S (snR v0 a lv (S.1 23) (S.1 24) (S.1 31) R i)) (S.1 24))) ^^^ (-1)))) (va_up na9 5 dp1))
      have q1 : (nv9 0) = ((snR v0 a lv (S.1 23) (S.1 24) (S.1 31) R i) 28) := hN9.1
      have q2 : (nv9 2) = ((snR v0 a lv (S.1 23) (S.1 24) (S.1 31) R i) 30) := hN9.2.2.1
      refine XG.blk tX4_passHours_ok 10 21 (pc' := 52) (pl' := [some (.ref 0), some (.ref 17), some (.int (nI n)), some (.int (v0 57)), some (.int (v0 56)), some (.int (nI i))]) (st' := [(.int (((nI (aslN S (snR v0 a lv (S.1 23) (S.1 24) (S.1 31) R i))) &&& ((nI (mkN (wkB v0 a lv S (snR v0 a lv (S.1 23) (S.1 24) (S.1 31) R i)) (S.1 24))) ^^^ (-1))) ^^^ (-1))), (.int ((nv9 0) + (nI 1))), (.ref 2), (.ref 17)]) (W1 := (rW se1 tv (va_up ta 22 sk1) tb (va_up (va_up (va_up nv9 4 ((nI (aslN S (snR v0 a lv (S.1 23) (S.1 24) (S.1 31) R i))) &&& ((nI (mkN (wkB v0 a lv S (snR v0 a lv (S.1 23) (S.1 24) (S.1 31) R i)) (S.1 24))) ^^^ (-1)))) 0 ((nv9 0) + (nI 1))) 2 ((nv9 2) + (nI 1))) (va_up na9 5 dp1))) (bs := []) rfl rfl rfl ?_
      simp only [q1, q2]
      refine XG.callV (ro := [2, 3, 4, 5, 6, 7, 8, 9, 10, 11, 12, 13, 14, 15, 16]) (W1 := (tW tv (va_up ta 22 sk1) tb)) eX4_passHours_52 kl_X4_134 (cc_asleepAt (d - 1) tv (va_up ta 22 sk1) tb S hX.sl.1 hX.sl.2 (((snR v0 a lv (S.1 23) (S.1 24) (S.1 31) R i) 28) + (nI 1)) (((nI (aslN S (snR v0 a lv (S.1 23) (S.1 24) (S.1 31) R i))) &&& ((nI (mkN (wkB v0 a lv S (snR v0 a lv (S.1 23) (S.1 24) (S.1 31) R i)) (S.1 24))) ^^^ (-1))) ^^^ (-1))) (px_fitS (by omega)) rfl ⟨rfl, by decide, by decide⟩ rfl rfl (Nat.le_of_ble_eq_true rfl) (fun r9 W9 hp9 hl9 => ?_)
      obtain ⟨rfl, rfl⟩ := hp9
      show XG _ _ _ _ _ _ [(.int (if (((snR v0 a lv (S.1 23) (S.1 24) (S.1 31) R i) 28) + (nI 1)) < (tv 4) then nI (2 ^ S.1 24 - 1) &&& ((((nI (aslN S (snR v0 a lv (S.1 23) (S.1 24) (S.1 31) R i))) &&& ((nI (mkN (wkB v0 a lv S (snR v0 a lv (S.1 23) (S.1 24) (S.1 31) R i)) (S.1 24))) ^^^ (-1))) ^^^ (-1)) ^^^ (-1)) else nI 0)), (.ref 17)] (rW se1 tv (va_up ta 22 sk1) tb (va_up (va_up (va_up nv9 4 ((nI (aslN S (snR v0 a lv (S.1 23) (S.1 24) (S.1 31) R i))) &&& ((nI (mkN (wkB v0 a lv S (snR v0 a lv (S.1 23) (S.1 24) (S.1 31) R i)) (S.1 24))) ^^^ (-1)))) 0 (((snR v0 a lv (S.1 23) (S.1 24) (S.1 31) R i) 28) + (nI 1))) 2 (((snR v0 a lv (S.1 23) (S.1 24) (S.1 31) R i) 30) + (nI 1))) (va_up na9 5 dp1))
      refine XG.blk tX4_passHours_ok 32 1 (pc' := 58) (pl' := [some (.ref 0), some (.ref 17), some (.int (nI n)), some (.int (v0 57)), some (.int (v0 56)), some (.int (nI i))]) (st' := []) (W1 := (rW se1 tv (va_up ta 22 sk1) tb (va_up (va_up (va_up nv9 0 (((snR v0 a lv (S.1 23) (S.1 24) (S.1 31) R i) 28) + (nI 1))) 2 (((snR v0 a lv (S.1 23) (S.1 24) (S.1 31) R i) 30) + (nI 1))) 4 (if (((snR v0 a lv (S.1 23) (S.1 24) (S.1 31) R i) 28) + (nI 1)) < (tv 4) then nI (2 ^ S.1 24 - 1) &&& ((((nI (aslN S (snR v0 a lv (S.1 23) (S.1 24) (S.1 31) R i))) &&& ((nI (mkN (wkB v0 a lv S (snR v0 a lv (S.1 23) (S.1 24) (S.1 31) R i)) (S.1 24))) ^^^ (-1))) ^^^ (-1)) ^^^ (-1)) else nI 0)) (va_up na9 5 dp1))) (bs := []) rfl rfl rfl ?_
      have hN7 := CNt.sleep hX hN9 v0 hh28 (by omega) hdp1
      refine XG.blk tX4_passHours_ok 33 2 (pc' := 60) (pl' := [some (.ref 0), some (.ref 17), some (.int (nI n)), some (.int (v0 57)), some (.int (v0 56)), some (.int (nI i))]) (st' := [(.ref 17), (.ref 0)]) (W1 := (rW se1 tv (va_up ta 22 sk1) tb (va_up (va_up (va_up nv9 0 (((snR v0 a lv (S.1 23) (S.1 24) (S.1 31) R i) 28) + (nI 1))) 2 (((snR v0 a lv (S.1 23) (S.1 24) (S.1 31) R i) 30) + (nI 1))) 4 (if (((snR v0 a lv (S.1 23) (S.1 24) (S.1 31) R i) 28) + (nI 1)) < (tv 4) then nI (2 ^ S.1 24 - 1) &&& ((((nI (aslN S (snR v0 a lv (S.1 23) (S.1 24) (S.1 31) R i))) &&& ((nI (mkN (wkB v0 a lv S (snR v0 a lv (S.1 23) (S.1 24) (S.1 31) R i)) (S.1 24))) ^^^ (-1))) ^^^ (-1)) ^^^ (-1)) else nI 0)) (va_up na9 5 dp1))) (bs := []) rfl rfl rfl ?_
      refine XG.callV0 eX4_passHours_60 kl_X4_137 (cc_letSpansBreak (d - 1) se1 tv (va_up ta 22 sk1) tb (va_up (va_up (va_up nv9 0 (((snR v0 a lv (S.1 23) (S.1 24) (S.1 31) R i) 28) + (nI 1))) 2 (((snR v0 a lv (S.1 23) (S.1 24) (S.1 31) R i) 30) + (nI 1))) 4 (if (((snR v0 a lv (S.1 23) (S.1 24) (S.1 31) R i) 28) + (nI 1)) < (tv 4) then nI (2 ^ S.1 24 - 1) &&& ((((nI (aslN S (snR v0 a lv (S.1 23) (S.1 24) (S.1 31) R i))) &&& ((nI (mkN (wkB v0 a lv S (snR v0 a lv (S.1 23) (S.1 24) (S.1 31) R i)) (S.1 24))) ^^^ (-1))) ^^^ (-1)) ^^^ (-1)) else nI 0)) (va_up na9 5 dp1) S lv a hX.sk (sleepF v0 a lv (S.1 24) (S.1 31) (snR v0 a lv (S.1 23) (S.1 24) (S.1 31) R i)) hN7 (by omega)) (px_fitS (by omega)) rfl rfl rfl (Nat.le_of_ble_eq_true rfl) (fun r9 W9 hp9 hl9 => ?_)
      obtain ⟨se2, sk2, na2, rfl, hN2, rfl⟩ := hp9
      show XG _ _ _ _ _ _ [] (rW se2 tv (va_up ta 22 sk2) tb (va_up (va_up (va_up nv9 0 (((snR v0 a lv (S.1 23) (S.1 24) (S.1 31) R i) 28) + (nI 1))) 2 (((snR v0 a lv (S.1 23) (S.1 24) (S.1 31) R i) 30) + (nI 1))) 4 (if (((snR v0 a lv (S.1 23) (S.1 24) (S.1 31) R i) 28) + (nI 1)) < (tv 4) then nI (2 ^ S.1 24 - 1) &&& ((((nI (aslN S (snR v0 a lv (S.1 23) (S.1 24) (S.1 31) R i))) &&& ((nI (mkN (wkB v0 a lv S (snR v0 a lv (S.1 23) (S.1 24) (S.1 31) R i)) (S.1 24))) ^^^ (-1))) ^^^ (-1)) ^^^ (-1)) else nI 0)) na2)
      refine XG.blk tX4_passHours_ok 36 2 (pc' := 65) (pl' := [some (.ref 0), some (.ref 17), some (.int (nI n)), some (.int (v0 57)), some (.int (v0 56)), some (.int (nI i))]) (st' := [(.ref 17), (.ref 0)]) (W1 := (rW se2 tv (va_up ta 22 sk2) tb (va_up (va_up (va_up nv9 0 (((snR v0 a lv (S.1 23) (S.1 24) (S.1 31) R i) 28) + (nI 1))) 2 (((snR v0 a lv (S.1 23) (S.1 24) (S.1 31) R i) 30) + (nI 1))) 4 (if (((snR v0 a lv (S.1 23) (S.1 24) (S.1 31) R i) 28) + (nI 1)) < (tv 4) then nI (2 ^ S.1 24 - 1) &&& ((((nI (aslN S (snR v0 a lv (S.1 23) (S.1 24) (S.1 31) R i))) &&& ((nI (mkN (wkB v0 a lv S (snR v0 a lv (S.1 23) (S.1 24) (S.1 31) R i)) (S.1 24))) ^^^ (-1))) ^^^ (-1)) ^^^ (-1)) else nI 0)) na2)) (bs := []) rfl rfl rfl ?_
      refine XG.callV0 eX4_passHours_65 kl_X4_141 (cc_letCrossersGo (d - 1) se2 tv (va_up ta 22 sk2) tb (va_up (va_up (va_up nv9 0 (((snR v0 a lv (S.1 23) (S.1 24) (S.1 31) R i) 28) + (nI 1))) 2 (((snR v0 a lv (S.1 23) (S.1 24) (S.1 31) R i) 30) + (nI 1))) 4 (if (((snR v0 a lv (S.1 23) (S.1 24) (S.1 31) R i) 28) + (nI 1)) < (tv 4) then nI (2 ^ S.1 24 - 1) &&& ((((nI (aslN S (snR v0 a lv (S.1 23) (S.1 24) (S.1 31) R i))) &&& ((nI (mkN (wkB v0 a lv S (snR v0 a lv (S.1 23) (S.1 24) (S.1 31) R i)) (S.1 24))) ^^^ (-1))) ^^^ (-1)) ^^^ (-1)) else nI 0)) na2 S lv a hX.sk (itN (brkF a lv (S.1 24) (S.1 31)) (sleepF v0 a lv (S.1 24) (S.1 31) (snR v0 a lv (S.1 23) (S.1 24) (S.1 31) R i)) (S.1 23)) hN2 (snR v0 a lv (S.1 23) (S.1 24) (S.1 31) R i) (TM.hour hX.2.1 hX.2.2.1 hV9) (by omega)) (px_fitS (by omega)) rfl rfl rfl (Nat.le_of_ble_eq_true rfl) (fun r9 W9 hp9 hl9 => ?_)
      obtain ⟨se3, sk3, nv3, na3, rfl, hN3, rfl⟩ := hp9
      show XG _ _ _ _ _ _ [] (rW se3 tv (va_up ta 22 sk3) tb nv3 na3)
      have q3 : ((nI i) + (nI 1)) = (nI (i + 1)) := px_eadd rfl rfl
      refine XG.blk tX4_passHours_ok 39 1 (pc' := 71) (pl' := [some (.ref 0), some (.ref 17), some (.int (nI n)), some (.int (v0 57)), some (.int (v0 56)), some (.int ((nI i) + (nI 1)))]) (st' := []) (W1 := (rW se3 tv (va_up ta 22 sk3) tb nv3 na3)) (bs := []) rfl rfl rfl ?_
      simp only [q3]
      refine XG.goto eX4_passHours_71 (tgt := 3) (by decide) ?_
      exact ihi _ _ _ _ hN3
