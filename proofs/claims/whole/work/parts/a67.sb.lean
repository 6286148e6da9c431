/-! THE CLASS ITSELF: feed, read -/
theorem cc_hasRoom (d : Nat) (rv : Nat → Int32) (ra : Nat → Nat → Int32) (rb : Nat → Nat → Int64) (rt : Value) (X : px_W) (t : Nat) (ht : t ≤ 2000) (h0 : rv 0 = nI t) : Con mX3_hasRoom d [.ref 0] (dW rv ra rb rt X) (fun r W' => W' = dW rv ra rb rt X ∧ r = some (.int (if t + 20 ≤ 2000 then 1 else 0))) := by
  refine Con.of (by decide) (Nat.le_of_ble_eq_true rfl) ?_
  have q1 : (rv 0) = (nI t) := h0
  have q2 : ((nI t) + (nI 20)) = (nI (t + 20)) := px_eadd rfl rfl
  refine XG.blk tX3_hasRoom_ok 0 5 (pc' := 10) (pl' := [some (.ref 0)]) (st' := [(.int (nI 2000)), (.int ((rv 0) + (nI 20)))]) (W1 := (dW rv ra rb rt X)) (bs := []) rfl rfl rfl ?_
  simp only [q1, q2]
  refine XG.br eX3_hasRoom_10 (P := (nI 2000) < (nI (t + 20))) (r := []) rfl (tgt := 17) (by decide) (fun h10 => ?_) (fun h10 => ?_)
  · skip
    have g10 : 2000 < (t + 20) := (nI_ltI (a := 2000) (b := (t + 20)) (by omega) (by omega)).mp h10
    refine XG.blk tX3_hasRoom_ok 8 1 (pc' := 18) (pl' := [some (.ref 0)]) (st' := [(.int (nI 0))]) (W1 := (dW rv ra rb rt X)) (bs := []) rfl rfl rfl ?_
    refine XS.iret eX3_hasRoom_18 rfl (by decide) ?_
    exact ⟨rfl, by rw [if_neg (by omega)]; rfl⟩
  · skip
    have g10 : ¬ 2000 < (t + 20) := (fun z_9 => h10 ((nI_ltI (a := 2000) (b := (t + 20)) (by omega) (by omega)).mpr z_9))
    refine XG.blk tX3_hasRoom_ok 6 1 (pc' := 14) (pl' := [some (.ref 0)]) (st' := [(.int (nI 1))]) (W1 := (dW rv ra rb rt X)) (bs := []) rfl rfl rfl ?_
    refine XG.goto eX3_hasRoom_14 (tgt := 18) (by decide) ?_
    refine XS.iret eX3_hasRoom_18 rfl (by decide) ?_
    exact ⟨rfl, by rw [if_pos (by omega)]; rfl⟩
set_option maxHeartbeats 1000000 in
theorem cc_addFour (d : Nat) (rv : Nat → Int32) (ra : Nat → Nat → Int32) (rb : Nat → Nat → Int64) (rt : Value) (X : px_W) (t : Nat) (ht : t + 4 ≤ 2000) (h0 : rv 0 = nI t) (x : Int32) : Con mX3_addFour d [.ref 0, .int x] (dW rv ra rb rt X) (fun r W' => W' = dW (va_up rv 0 (nI (t + 4))) (va_up ra 2 (pu4 (ra 2) t x)) rb rt X ∧ r = none) := by
  refine Con.of (by decide) (Nat.le_of_ble_eq_true rfl) ?_
  refine XG.blk tX3_addFour_ok 0 2 (pc' := 3) (pl' := [some (.ref 0), some (.int x), some (.int (nI 24))]) (st' := []) (W1 := (dW rv ra rb rt X)) (bs := []) rfl rfl rfl ?_
  refine XG.blk tX3_addFour_ok 2 1 (pc' := 4) (pl' := [some (.ref 0), some (.int x), some (.int (nI 24))]) (st' := [(.int (nI 24))]) (W1 := (dW rv ra rb rt X)) (bs := []) rfl rfl rfl ?_
  refine XG.br eX3_addFour_4 (P := (nI 24) < 0) (r := []) rfl (tgt := 46) (by decide) (fun h4 => ?_) (fun h4 => ?_)
  · exfalso
    have g4 : 24 < 0 := (nI_ltI (a := 24) (b := 0) (by omega) (by omega)).mp h4
    omega
  · skip
    have g4 : ¬ 24 < 0 := (fun z_9 => h4 ((nI_ltI (a := 24) (b := 0) (by omega) (by omega)).mpr z_9))
    have q1 : (rv 0) = (nI t) := h0
    refine XG.blk tX3_addFour_ok 4 3 (pc' := 14) (pl' := [some (.ref 0), some (.int x), some (.int (nI 24))]) (st' := [(.int (nI 2000)), (.int (rv 0))]) (W1 := (dW rv ra rb rt X)) (bs := []) rfl rfl rfl ?_
    simp only [q1]
    refine XG.br eX3_addFour_14 (P := (nI 2000) ≤ (nI t)) (r := []) rfl (tgt := 46) (by decide) (fun h14 => ?_) (fun h14 => ?_)
    · exfalso
      have g14 : 2000 ≤ t := (nI_leI (a := 2000) (b := t) (by omega) (by omega)).mp h14
      omega
    · skip
      have g14 : ¬ 2000 ≤ t := (fun z_9 => h14 ((nI_leI (a := 2000) (b := t) (by omega) (by omega)).mpr z_9))
      have q2 : (rv 0) = (nI t) := h0
      have q3 : (nI t).toNatClampNeg = t := nI_clamp (by omega)
      have q4 : ((nI t) + (nI 1)) = (nI (t + 1)) := px_eadd rfl rfl
      have q5 : ((nI 24) + (-8)) = (nI 16) := by decide
      refine XG.blk tX3_addFour_ok 8 16 (pc' := 43) (pl' := [some (.ref 0), some (.int x), some (.int ((nI 24) + (-8)))]) (st' := []) (W1 := (dW (va_up rv 0 ((rv 0) + (nI 1))) (va_up ra 2 (upd (ra 2) (rv 0).toNatClampNeg (vp_nar .byte ((x >>> ((nI 24) &&& 31))).toInt8.toInt32))) rb rt X)) (bs := [px_vb (rv 0) 2000]) rfl rfl (by (try simp only [q2, q3, q4, q5]); exact (px_all (px_vbN (by omega) (by decide)) rfl)) ?_
      simp only [q2, q3, q4, q5]
      refine XG.goto eX3_addFour_43 (tgt := 3) (by decide) ?_
      obtain ⟨v1, hv1⟩ : ∃ z, z = (va_up rv 0 (nI (t + 1))) := ⟨_, rfl⟩
      obtain ⟨a1, ha1⟩ : ∃ z, z = (va_up ra 2 (upd (ra 2) t (vp_nar .byte ((x >>> ((nI 24) &&& 31))).toInt8.toInt32))) := ⟨_, rfl⟩
      rw [← hv1, ← ha1]
      have h2_1 : v1 0 = nI (t + 1) := by rw [hv1]; rfl
      refine XG.blk tX3_addFour_ok 2 1 (pc' := 4) (pl' := [some (.ref 0), some (.int x), some (.int (nI 16))]) (st' := [(.int (nI 16))]) (W1 := (dW v1 a1 rb rt X)) (bs := []) rfl rfl rfl ?_
      refine XG.br eX3_addFour_4 (P := (nI 16) < 0) (r := []) rfl (tgt := 46) (by decide) (fun h4 => ?_) (fun h4 => ?_)
      · exfalso
        have g4 : 16 < 0 := (nI_ltI (a := 16) (b := 0) (by omega) (by omega)).mp h4
        omega
      · skip
        have g4 : ¬ 16 < 0 := (fun z_9 => h4 ((nI_ltI (a := 16) (b := 0) (by omega) (by omega)).mpr z_9))
        have q6 : (v1 0) = (nI (t + 1)) := h2_1
        refine XG.blk tX3_addFour_ok 4 3 (pc' := 14) (pl' := [some (.ref 0), some (.int x), some (.int (nI 16))]) (st' := [(.int (nI 2000)), (.int (v1 0))]) (W1 := (dW v1 a1 rb rt X)) (bs := []) rfl rfl rfl ?_
        simp only [q6]
        refine XG.br eX3_addFour_14 (P := (nI 2000) ≤ (nI (t + 1))) (r := []) rfl (tgt := 46) (by decide) (fun h14 => ?_) (fun h14 => ?_)
        · exfalso
          have g14 : 2000 ≤ (t + 1) := (nI_leI (a := 2000) (b := (t + 1)) (by omega) (by omega)).mp h14
          omega
        · skip
          have g14 : ¬ 2000 ≤ (t + 1) := (fun z_9 => h14 ((nI_leI (a := 2000) (b := (t + 1)) (by omega) (by omega)).mpr z_9))
          have q7 : (v1 0) = (nI (t + 1)) := h2_1
          have q8 : (nI (t + 1)).toNatClampNeg = (t + 1) := nI_clamp (by omega)
          have q9 : ((nI (t + 1)) + (nI 1)) = (nI (t + 2)) := nI_p1 t 1 2 rfl
          have q10 : ((nI 16) + (-8)) = (nI 8) := by decide
          refine XG.blk tX3_addFour_ok 8 16 (pc' := 43) (pl' := [some (.ref 0), some (.int x), some (.int ((nI 16) + (-8)))]) (st' := []) (W1 := (dW (va_up v1 0 ((v1 0) + (nI 1))) (va_up a1 2 (upd (a1 2) (v1 0).toNatClampNeg (vp_nar .byte ((x >>> ((nI 16) &&& 31))).toInt8.toInt32))) rb rt X)) (bs := [px_vb (v1 0) 2000]) rfl rfl (by (try simp only [q7, q8, q9, q10]); exact (px_all (px_vbN (by omega) (by decide)) rfl)) ?_
          simp only [q7, q8, q9, q10]
          refine XG.goto eX3_addFour_43 (tgt := 3) (by decide) ?_
          obtain ⟨v2, hv2⟩ : ∃ z, z = (va_up v1 0 (nI (t + 2))) := ⟨_, rfl⟩
          obtain ⟨a2, ha2⟩ : ∃ z, z = (va_up a1 2 (upd (a1 2) (t + 1) (vp_nar .byte ((x >>> ((nI 16) &&& 31))).toInt8.toInt32))) := ⟨_, rfl⟩
          rw [← hv2, ← ha2]
          have h2_2 : v2 0 = nI (t + 2) := by rw [hv2]; rfl
          refine XG.blk tX3_addFour_ok 2 1 (pc' := 4) (pl' := [some (.ref 0), some (.int x), some (.int (nI 8))]) (st' := [(.int (nI 8))]) (W1 := (dW v2 a2 rb rt X)) (bs := []) rfl rfl rfl ?_
          refine XG.br eX3_addFour_4 (P := (nI 8) < 0) (r := []) rfl (tgt := 46) (by decide) (fun h4 => ?_) (fun h4 => ?_)
          · exfalso
            have g4 : 8 < 0 := (nI_ltI (a := 8) (b := 0) (by omega) (by omega)).mp h4
            omega
          · skip
            have g4 : ¬ 8 < 0 := (fun z_9 => h4 ((nI_ltI (a := 8) (b := 0) (by omega) (by omega)).mpr z_9))
            have q11 : (v2 0) = (nI (t + 2)) := h2_2
            refine XG.blk tX3_addFour_ok 4 3 (pc' := 14) (pl' := [some (.ref 0), some (.int x), some (.int (nI 8))]) (st' := [(.int (nI 2000)), (.int (v2 0))]) (W1 := (dW v2 a2 rb rt X)) (bs := []) rfl rfl rfl ?_
            simp only [q11]
            refine XG.br eX3_addFour_14 (P := (nI 2000) ≤ (nI (t + 2))) (r := []) rfl (tgt := 46) (by decide) (fun h14 => ?_) (fun h14 => ?_)
            · exfalso
              have g14 : 2000 ≤ (t + 2) := (nI_leI (a := 2000) (b := (t + 2)) (by omega) (by omega)).mp h14
              omega
            · skip
              have g14 : ¬ 2000 ≤ (t + 2) := (fun z_9 => h14 ((nI_leI (a := 2000) (b := (t + 2)) (by omega) (by omega)).mpr z_9))
              have q12 : (v2 0) = (nI (t + 2)) := h2_2
              have q13 : (nI (t + 2)).toNatClampNeg = (t + 2) := nI_clamp (by omega)
              have q14 : ((nI (t + 2)) + (nI 1)) = (nI (t + 3)) := nI_p1 t 2 3 rfl
              have q15 : ((nI 8) + (-8)) = (nI 0) := by decide
              refine XG.blk tX3_addFour_ok 8 16 (pc' := 43) (pl' := [some (.ref 0), some (.int x), some (.int ((nI 8) + (-8)))]) (st' := []) (W1 := (dW (va_up v2 0 ((v2 0) + (nI 1))) (va_up a2 2 (upd (a2 2) (v2 0).toNatClampNeg (vp_nar .byte ((x >>> ((nI 8) &&& 31))).toInt8.toInt32))) rb rt X)) (bs := [px_vb (v2 0) 2000]) rfl rfl (by (try simp only [q12, q13, q14, q15]); exact (px_all (px_vbN (by omega) (by decide)) rfl)) ?_
              simp only [q12, q13, q14, q15]
              refine XG.goto eX3_addFour_43 (tgt := 3) (by decide) ?_
              obtain ⟨v3, hv3⟩ : ∃ z, z = (va_up v2 0 (nI (t + 3))) := ⟨_, rfl⟩
              obtain ⟨a3, ha3⟩ : ∃ z, z = (va_up a2 2 (upd (a2 2) (t + 2) (vp_nar .byte ((x >>> ((nI 8) &&& 31))).toInt8.toInt32))) := ⟨_, rfl⟩
              rw [← hv3, ← ha3]
              have h2_3 : v3 0 = nI (t + 3) := by rw [hv3]; rfl
              refine XG.blk tX3_addFour_ok 2 1 (pc' := 4) (pl' := [some (.ref 0), some (.int x), some (.int (nI 0))]) (st' := [(.int (nI 0))]) (W1 := (dW v3 a3 rb rt X)) (bs := []) rfl rfl rfl ?_
              refine XG.br eX3_addFour_4 (P := (nI 0) < 0) (r := []) rfl (tgt := 46) (by decide) (fun h4 => ?_) (fun h4 => ?_)
              · exfalso
                have g4 : 0 < 0 := (nI_ltI (a := 0) (b := 0) (by omega) (by omega)).mp h4
                omega
              · skip
                have g4 : ¬ 0 < 0 := (fun z_9 => h4 ((nI_ltI (a := 0) (b := 0) (by omega) (by omega)).mpr z_9))
                have q16 : (v3 0) = (nI (t + 3)) := h2_3
                refine XG.blk tX3_addFour_ok 4 3 (pc' := 14) (pl' := [some (.ref 0), some (.int x), some (.int (nI 0))]) (st' := [(.int (nI 2000)), (.int (v3 0))]) (W1 := (dW v3 a3 rb rt X)) (bs := []) rfl rfl rfl ?_
                simp only [q16]
                refine XG.br eX3_addFour_14 (P := (nI 2000) ≤ (nI (t + 3))) (r := []) rfl (tgt := 46) (by decide) (fun h14 => ?_) (fun h14 => ?_)
                · exfalso
                  have g14 : 2000 ≤ (t + 3) := (nI_leI (a := 2000) (b := (t + 3)) (by omega) (by omega)).mp h14
                  omega
                · skip
                  have g14 : ¬ 2000 ≤ (t + 3) := (fun z_9 => h14 ((nI_leI (a := 2000) (b := (t + 3)) (by omega) (by omega)).mpr z_9))
                  have q17 : (v3 0) = (nI (t + 3)) := h2_3
                  have q18 : (nI (t + 3)).toNatClampNeg = (t + 3) := nI_clamp (by omega)
                  have q19 : ((nI (t + 3)) + (nI 1)) = (nI (t + 4)) := nI_p1 t 3 4 rfl
                  have q20 : ((nI 0) + (-8)) = (-8) := by decide
                  refine XG.blk tX3_addFour_ok 8 16 (pc' := 43) (pl' := [some (.ref 0), some (.int x), some (.int ((nI 0) + (-8)))]) (st' := []) (W1 := (dW (va_up v3 0 ((v3 0) + (nI 1))) (va_up a3 2 (upd (a3 2) (v3 0).toNatClampNeg (vp_nar .byte ((x >>> ((nI 0) &&& 31))).toInt8.toInt32))) rb rt X)) (bs := [px_vb (v3 0) 2000]) rfl rfl (by (try simp only [q17, q18, q19, q20]); exact (px_all (px_vbN (by omega) (by decide)) rfl)) ?_
                  simp only [q17, q18, q19, q20]
                  refine XG.goto eX3_addFour_43 (tgt := 3) (by decide) ?_
                  obtain ⟨v4, hv4⟩ : ∃ z, z = (va_up v3 0 (nI (t + 4))) := ⟨_, rfl⟩
                  obtain ⟨a4, ha4⟩ : ∃ z, z = (va_up a3 2 (upd (a3 2) (t + 3) (vp_nar .byte ((x >>> ((nI 0) &&& 31))).toInt8.toInt32))) := ⟨_, rfl⟩
                  rw [← hv4, ← ha4]
                  have h2_4 : v4 0 = nI (t + 4) := by rw [hv4]; rfl
                  refine XG.blk tX3_addFour_ok 2 1 (pc' := 4) (pl' := [some (.ref 0), some (.int x), some (.int (-8))]) (st' := [(.int (-8))]) (W1 := (dW v4 a4 rb rt X)) (bs := []) rfl rfl rfl ?_
                  refine XG.br eX3_addFour_4 (P := (-8) < 0) (r := []) rfl (tgt := 46) (by decide) (fun h4 => ?_) (fun h4 => ?_)
                  · skip
                    refine XS.vret eX3_addFour_46 rfl ?_
                    have eV : v4 = va_up rv 0 (nI (t + 4)) := by rw [hv4, hv3, hv2, hv1, va_upup, va_upup, va_upup]
                    have eA : a4 = va_up ra 2 (pu4 (ra 2) t x) := by rw [ha4, ha3, ha2, ha1, va_upup, va_upup, va_upup]; rfl
                    rw [eV, eA]
                    exact ⟨rfl, rfl⟩
                  · exfalso
                    first | exact h4 (by decide) | exact absurd h4 (by decide)
def sG (p q r : Nat) (bv : Nat → Int32) (tv : Nat → Int32) (ta : Nat → Nat → Int32) (tb : Nat → Nat → Int64) (uv : Nat → Int32) (ua : Nat → Nat → Int32) (ub : Nat → Nat → Int64) (rv : Nat → Int32) (ra : Nat → Nat → Int32) (rb : Nat → Nat → Int64) (rt : Value) (se : Nat → Int32) (pv : Nat → Int32) (pa : Nat → Nat → Int32) (gv : Nat → Int32) (ga : Nat → Nat → Int32) (ov : Nat → Int32) (oa : Nat → Nat → Int32) (qv : Nat → Int32) (qa : Nat → Nat → Int32) (hv : Nat → Int32) (ha : Nat → Nat → Int32) (nv : Nat → Int32) (na : Nat → Nat → Int32) (yv : Nat → Int32) (ya : Nat → Nat → Int32) (cf : Nat → Int32) (cs : Nat → Int32) : px_W := [.inr (8, [.ref p, .ref q, .ref 31, .ref 37, .ref 39, .ref 58, .ref 68, .ref 73, .ref 78, .ref 80, .int (bv 10), .int (bv 11), .int (bv 12)]), .inr (7, [.int (tv 0), .int (tv 1), .int (tv 2), .int (tv 3), .int (tv 4), .int (tv 5), .int (tv 6), .ref 2, .ref 3, .ref 4, .ref 5, .ref 6, .ref 7, .ref 8, .ref 9, .ref 10, .ref 11, .ref 12]), .inl (.long, 6, .inr (.inl (tb 7))), .inl (.int, 6, .inl (ta 8)), .inl (.int, 6, .inl (ta 9)), .inl (.int, 6, .inl (ta 10)), .inl (.int, 6, .inl (ta 11)), .inl (.int, 6, .inl (ta 12)), .inl (.long, 5, .inr (.inl (tb 13))), .inl (.int, 5, .inl (ta 14)), .inl (.int, 5, .inl (ta 15)), .inl (.int, 5, .inl (ta 16)), .inr (0, [.ref 13, .ref 14, .ref 15, .int (tv 20)]), .inl (.int, 404, .inl (ta 20)), .inl (.int, 3, .inl (ta 21)), .inl (.int, 32, .inl (ta 22)), .inr (7, [.int (uv 0), .int (uv 1), .int (uv 2), .int (uv 3), .int (uv 4), .int (uv 5), .int (uv 6), .ref 17, .ref 18, .ref 19, .ref 20, .ref 21, .ref 22, .ref 23, .ref 24, .ref 25, .ref 26, .ref 27]), .inl (.long, 6, .inr (.inl (ub 7))), .inl (.int, 6, .inl (ua 8)), .inl (.int, 6, .inl (ua 9)), .inl (.int, 6, .inl (ua 10)), .inl (.int, 6, .inl (ua 11)), .inl (.int, 6, .inl (ua 12)), .inl (.long, 5, .inr (.inl (ub 13))), .inl (.int, 5, .inl (ua 14)), .inl (.int, 5, .inl (ua 15)), .inl (.int, 5, .inl (ua 16)), .inr (0, [.ref 28, .ref 29, .ref 30, .int (uv 20)]), .inl (.int, 404, .inl (ua 20)), .inl (.int, 3, .inl (ua 21)), .inl (.int, 32, .inl (ua 22)), .inr (3, [.int (rv 0), .int (rv 1), .ref 32, .ref 33, .ref 34, .ref 35, .ref 36, .int (rv 7), .int (rv 8), .int (rv 9), .int (rv 10), .int (rv 11), rt]), .inl (.byte, 2000, .inl (ra 2)), .inl (.long, 22, .inr (.inl (rb 3))), .inl (.int, 402, .inl (ra 4)), .inl (.int, 402, .inl (ra 5)), .inl (.long, 402, .inr (.inl (rb 6))), .inr (4, [.ref r, .ref 38]), .inl (.int, 16, .inl se), .inr (2, [.int (pv 0), .int (pv 1), .int (pv 2), .int (pv 3), .ref 40, .ref 41, .ref 37, .ref 46, .ref 51, .ref 56, .ref 42, .ref 43, .ref 44, .ref 45, .int (pv 14)]), .inl (.int, 6, .inl (pa 4)), .inl (.int, 5, .inl (pa 5)), .inl (.int, 6, .inl (pa 10)), .inl (.int, 5, .inl (pa 11)), .inl (.int, 320, .inl (pa 12)), .inl (.int, 5, .inl (pa 13)), .inr (1, [.int (gv 0), .int (gv 1), .int (gv 2), .int (gv 3), .int (gv 4), .ref 47, .ref 48, .ref 49, .ref 50]), .inl (.int, 6, .inl (ga 5)), .inl (.int, 6, .inl (ga 6)), .inl (.int, 5, .inl (ga 7)), .inl (.int, 5, .inl (ga 8)), .inr (1, [.int (ov 0), .int (ov 1), .int (ov 2), .int (ov 3), .int (ov 4), .ref 52, .ref 53, .ref 54, .ref 55]), .inl (.int, 6, .inl (oa 5)), .inl (.int, 6, .inl (oa 6)), .inl (.int, 5, .inl (oa 7)), .inl (.int, 5, .inl (oa 8)), .inr (6, [.ref 57]), .inl (.int, 162, .inl (pa 9)), .inr (5, [.int (qv 0), .ref 59, .int (qv 2), .ref 60, .ref 61, .ref 62, .ref 63, .ref 37]), .inl (.int, 64, .inl (qa 1)), .inl (.int, 20, .inl (qa 3)), .inl (.int, 20, .inl (qa 4)), .inl (.int, 64, .inl (qa 5)), .inr (1, [.int (hv 0), .int (hv 1), .int (hv 2), .int (hv 3), .int (hv 4), .ref 64, .ref 65, .ref 66, .ref 67]), .inl (.int, 6, .inl (ha 5)), .inl (.int, 6, .inl (ha 6)), .inl (.int, 5, .inl (ha 7)), .inl (.int, 5, .inl (ha 8)), .inr (1, [.int (nv 0), .int (nv 1), .int (nv 2), .int (nv 3), .int (nv 4), .ref 69, .ref 70, .ref 71, .ref 72]), .inl (.int, 6, .inl (na 5)), .inl (.int, 6, .inl (na 6)), .inl (.int, 5, .inl (na 7)), .inl (.int, 5, .inl (na 8)), .inr (1, [.int (yv 0), .int (yv 1), .int (yv 2), .int (yv 3), .int (yv 4), .ref 74, .ref 75, .ref 76, .ref 77]), .inl (.int, 6, .inl (ya 5)), .inl (.int, 6, .inl (ya 6)), .inl (.int, 5, .inl (ya 7)), .inl (.int, 5, .inl (ya 8)), .inr (6, [.ref 79]), .inl (.int, 1080, .inl cf), .inr (6, [.ref 81]), .inl (.int, 81, .inl cs)]
theorem sW_G (bv : Nat → Int32) (tv : Nat → Int32) (ta : Nat → Nat → Int32) (tb : Nat → Nat → Int64) (uv : Nat → Int32) (ua : Nat → Nat → Int32) (ub : Nat → Nat → Int64) (rv : Nat → Int32) (ra : Nat → Nat → Int32) (rb : Nat → Nat → Int64) (rt : Value) (se : Nat → Int32) (pv : Nat → Int32) (pa : Nat → Nat → Int32) (gv : Nat → Int32) (ga : Nat → Nat → Int32) (ov : Nat → Int32) (oa : Nat → Nat → Int32) (qv : Nat → Int32) (qa : Nat → Nat → Int32) (hv : Nat → Int32) (ha : Nat → Nat → Int32) (nv : Nat → Int32) (na : Nat → Nat → Int32) (yv : Nat → Int32) (ya : Nat → Nat → Int32) (cf : Nat → Int32) (cs : Nat → Int32) : (sW bv tv ta tb uv ua ub rv ra rb rt se pv pa gv ga ov oa qv qa hv ha nv na yv ya cf cs) = (sG 1 16 1 bv tv ta tb uv ua ub rv ra rb rt se pv pa gv ga ov oa qv qa hv ha nv na yv ya cf cs) := rfl
set_option maxHeartbeats 4000000 in
theorem pt_gd (bv : Nat → Int32) (tv : Nat → Int32) (ta : Nat → Nat → Int32) (tb : Nat → Nat → Int64) (uv : Nat → Int32) (ua : Nat → Nat → Int32) (ub : Nat → Nat → Int64) (rv : Nat → Int32) (ra : Nat → Nat → Int32) (rb : Nat → Nat → Int64) (rt : Value) (se : Nat → Int32) (pv : Nat → Int32) (pa : Nat → Nat → Int32) (gv : Nat → Int32) (ga : Nat → Nat → Int32) (ov : Nat → Int32) (oa : Nat → Nat → Int32) (qv : Nat → Int32) (qa : Nat → Nat → Int32) (hv : Nat → Int32) (ha : Nat → Nat → Int32) (nv : Nat → Int32) (na : Nat → Nat → Int32) (yv : Nat → Int32) (ya : Nat → Nat → Int32) (cf : Nat → Int32) (cs : Nat → Int32) (rv' : Nat → Int32) (ra' : Nat → Nat → Int32) (rb' : Nat → Nat → Int64) (rt' : Value) (uv' : Nat → Int32) (ua' : Nat → Nat → Int32) (ub' : Nat → Nat → Int64) (tv' : Nat → Int32) (ta' : Nat → Nat → Int32) (tb' : Nat → Nat → Int64) : px_pt (px_f [31, 32, 33, 34, 35, 36, 16, 17, 18, 19, 20, 21, 22, 23, 24, 25, 26, 27, 28, 29, 30, 1, 2, 3, 4, 5, 6, 7, 8, 9, 10, 11, 12, 13, 14, 15]) [31, 32, 33, 34, 35, 36, 16, 17, 18, 19, 20, 21, 22, 23, 24, 25, 26, 27, 28, 29, 30, 1, 2, 3, 4, 5, 6, 7, 8, 9, 10, 11, 12, 13, 14, 15] (dW rv' ra' rb' rt' (xY uv' ua' ub' tv' ta' tb')) (sG 1 16 1 bv tv ta tb uv ua ub rv ra rb rt se pv pa gv ga ov oa qv qa hv ha nv na yv ya cf cs) = (sG 1 16 1 bv tv' ta' tb' uv' ua' ub' rv' ra' rb' (px_tr (px_f [31, 32, 33, 34, 35, 36, 16, 17, 18, 19, 20, 21, 22, 23, 24, 25, 26, 27, 28, 29, 30, 1, 2, 3, 4, 5, 6, 7, 8, 9, 10, 11, 12, 13, 14, 15]) rt') se pv pa gv ga ov oa qv qa hv ha nv na yv ya cf cs) := by
  unfold sG dW xY
  simp only [px_pt, List.set_cons_succ, List.set_cons_zero]
  rfl
set_option maxHeartbeats 4000000 in
theorem pt_gb (bv : Nat → Int32) (tv : Nat → Int32) (ta : Nat → Nat → Int32) (tb : Nat → Nat → Int64) (uv : Nat → Int32) (ua : Nat → Nat → Int32) (ub : Nat → Nat → Int64) (rv : Nat → Int32) (ra : Nat → Nat → Int32) (rb : Nat → Nat → Int64) (rt : Value) (se : Nat → Int32) (pv : Nat → Int32) (pa : Nat → Nat → Int32) (gv : Nat → Int32) (ga : Nat → Nat → Int32) (ov : Nat → Int32) (oa : Nat → Nat → Int32) (qv : Nat → Int32) (qa : Nat → Nat → Int32) (hv : Nat → Int32) (ha : Nat → Nat → Int32) (nv : Nat → Int32) (na : Nat → Nat → Int32) (yv : Nat → Int32) (ya : Nat → Nat → Int32) (cf : Nat → Int32) (cs : Nat → Int32) (nv' : Nat → Int32) (na' : Nat → Nat → Int32) (uv' : Nat → Int32) (ua' : Nat → Nat → Int32) (ub' : Nat → Nat → Int64) : px_pt (px_f [68, 69, 70, 71, 72, 16, 17, 18, 19, 20, 21, 22, 23, 24, 25, 26, 27, 28, 29, 30]) [68, 69, 70, 71, 72, 16, 17, 18, 19, 20, 21, 22, 23, 24, 25, 26, 27, 28, 29, 30] (bW nv' na' uv' ua' ub') (sG 16 1 16 bv tv ta tb uv ua ub rv ra rb rt se pv pa gv ga ov oa qv qa hv ha nv na yv ya cf cs) = (sG 16 1 16 bv tv ta tb uv' ua' ub' rv ra rb rt se pv pa gv ga ov oa qv qa hv ha nv' na' yv ya cf cs) := by
  unfold sG bW
  simp only [px_pt, List.set_cons_succ, List.set_cons_zero]
  rfl
set_option maxHeartbeats 4000000 in
theorem pt_gb1 (bv : Nat → Int32) (tv : Nat → Int32) (ta : Nat → Nat → Int32) (tb : Nat → Nat → Int64) (uv : Nat → Int32) (ua : Nat → Nat → Int32) (ub : Nat → Nat → Int64) (rv : Nat → Int32) (ra : Nat → Nat → Int32) (rb : Nat → Nat → Int64) (rt : Value) (se : Nat → Int32) (pv : Nat → Int32) (pa : Nat → Nat → Int32) (gv : Nat → Int32) (ga : Nat → Nat → Int32) (ov : Nat → Int32) (oa : Nat → Nat → Int32) (qv : Nat → Int32) (qa : Nat → Nat → Int32) (hv : Nat → Int32) (ha : Nat → Nat → Int32) (nv : Nat → Int32) (na : Nat → Nat → Int32) (yv : Nat → Int32) (ya : Nat → Nat → Int32) (cf : Nat → Int32) (cs : Nat → Int32) (nv' : Nat → Int32) (na' : Nat → Nat → Int32) (tv' : Nat → Int32) (ta' : Nat → Nat → Int32) (tb' : Nat → Nat → Int64) : px_pt (px_f [68, 69, 70, 71, 72, 1, 2, 3, 4, 5, 6, 7, 8, 9, 10, 11, 12, 13, 14, 15]) [68, 69, 70, 71, 72, 1, 2, 3, 4, 5, 6, 7, 8, 9, 10, 11, 12, 13, 14, 15] (bW nv' na' tv' ta' tb') (sG 1 16 1 bv tv ta tb uv ua ub rv ra rb rt se pv pa gv ga ov oa qv qa hv ha nv na yv ya cf cs) = (sG 1 16 1 bv tv' ta' tb' uv ua ub rv ra rb rt se pv pa gv ga ov oa qv qa hv ha nv' na' yv ya cf cs) := by
  unfold sG bW
  simp only [px_pt, List.set_cons_succ, List.set_cons_zero]
  rfl
set_option maxHeartbeats 4000000 in
theorem cs_feedS (d : Nat) (bv : Nat → Int32) (tv : Nat → Int32) (ta : Nat → Nat → Int32) (tb : Nat → Nat → Int64) (uv : Nat → Int32) (ua : Nat → Nat → Int32) (ub : Nat → Nat → Int64) (rv : Nat → Int32) (ra : Nat → Nat → Int32) (rb : Nat → Nat → Int64) (rt9 : Value) (se : Nat → Int32) (pv : Nat → Int32) (pa : Nat → Nat → Int32) (gv : Nat → Int32) (ga : Nat → Nat → Int32) (ov : Nat → Int32) (oa : Nat → Nat → Int32) (qv : Nat → Int32) (qa : Nat → Nat → Int32) (hv : Nat → Int32) (ha : Nat → Nat → Int32) (nv : Nat → Int32) (na : Nat → Nat → Int32) (yv : Nat → Int32) (ya : Nat → Nat → Int32) (cf : Nat → Int32) (cs : Nat → Int32) (t : Nat) (h0 : rv 0 = nI t) (ht : t ≤ 2000) (hr : t + 20 ≤ 2000) (x1 x2 x3 x4 x5 : Int32) (hd : 2 ≤ d) : Con mX8_feed d [.ref 0, .int x1, .int x2, .int x3, .int x4, .int x5] (sG 1 16 1 bv tv ta tb uv ua ub rv ra rb (px_tr (px_f [31, 32, 33, 34, 35, 36, 16, 17, 18, 19, 20, 21, 22, 23, 24, 25, 26, 27, 28, 29, 30, 1, 2, 3, 4, 5, 6, 7, 8, 9, 10, 11, 12, 13, 14, 15]) rt9) se pv pa gv ga ov oa qv qa hv ha nv na yv ya cf cs) (fun r W' => (2000 < t + 20 ∧ W' = (sG 1 16 1 bv tv ta tb uv ua ub rv ra rb (px_tr (px_f [31, 32, 33, 34, 35, 36, 16, 17, 18, 19, 20, 21, 22, 23, 24, 25, 26, 27, 28, 29, 30, 1, 2, 3, 4, 5, 6, 7, 8, 9, 10, 11, 12, 13, 14, 15]) rt9) se pv pa gv ga ov oa qv qa hv ha nv na yv ya cf cs) ∧ r = some (.int (-1))) ∨ (t + 20 ≤ 2000 ∧ W' = (sG 1 16 1 bv tv ta tb uv ua ub (va_up rv 0 (nI (t + 20))) (va_up ra 2 (fd5 (ra 2) t x1 x2 x3 x4 x5)) rb (px_tr (px_f [31, 32, 33, 34, 35, 36, 16, 17, 18, 19, 20, 21, 22, 23, 24, 25, 26, 27, 28, 29, 30, 1, 2, 3, 4, 5, 6, 7, 8, 9, 10, 11, 12, 13, 14, 15]) rt9) se pv pa gv ga ov oa qv qa hv ha nv na yv ya cf cs) ∧ r = some (.int (nI (t + 20))))) := by
  refine Con.of (by decide) (Nat.le_of_ble_eq_true rfl) ?_
  refine XG.blk tX8_feed_ok 0 2 (pc' := 4) (pl' := [some (.ref 0), some (.int x1), some (.int x2), some (.int x3), some (.int x4), some (.int x5)]) (st' := [(.ref 31)]) (W1 := (sG 1 16 1 bv tv ta tb uv ua ub rv ra rb (px_tr (px_f [31, 32, 33, 34, 35, 36, 16, 17, 18, 19, 20, 21, 22, 23, 24, 25, 26, 27, 28, 29, 30, 1, 2, 3, 4, 5, 6, 7, 8, 9, 10, 11, 12, 13, 14, 15]) rt9) se pv pa gv ga ov oa qv qa hv ha nv na yv ya cf cs)) (bs := []) rfl rfl rfl ?_
  refine XG.callV (ro := [31, 32, 33, 34, 35, 36, 16, 17, 18, 19, 20, 21, 22, 23, 24, 25, 26, 27, 28, 29, 30, 1, 2, 3, 4, 5, 6, 7, 8, 9, 10, 11, 12, 13, 14, 15]) (W1 := (dW rv ra rb rt9 (xY uv ua ub tv ta tb))) eX8_feed_4 kl_X8_76 (cc_hasRoom (d - 1) rv ra rb rt9 (xY uv ua ub tv ta tb) t (by omega) h0) (px_fitS (by omega)) rfl ⟨rfl, by decide, by decide⟩ rfl rfl (Nat.le_of_ble_eq_true rfl) (fun r9 W9 hp9 hl9 => ?_)
  obtain ⟨rfl, rfl⟩ := hp9
  rw [pt_gd]
  show XG _ _ _ _ _ _ [(.int (if t + 20 ≤ 2000 then 1 else 0))] (sG 1 16 1 bv tv ta tb uv ua ub rv ra rb (px_tr (px_f [31, 32, 33, 34, 35, 36, 16, 17, 18, 19, 20, 21, 22, 23, 24, 25, 26, 27, 28, 29, 30, 1, 2, 3, 4, 5, 6, 7, 8, 9, 10, 11, 12, 13, 14, 15]) rt9) se pv pa gv ga ov oa qv qa hv ha nv na yv ya cf cs)
  refine XG.br eX8_feed_7 (P := ¬ (if t + 20 ≤ 2000 then 1 else 0) = 0) (r := []) rfl (tgt := 12) (by decide) (fun h7 => ?_) (fun h7 => ?_)
  · skip
    refine XG.blk tX8_feed_ok 6 3 (pc' := 17) (pl' := [some (.ref 0), some (.int x1), some (.int x2), some (.int x3), some (.int x4), some (.int x5)]) (st' := [(.int x1), (.ref 31)]) (W1 := (sG 1 16 1 bv tv ta tb uv ua ub rv ra rb (px_tr (px_f [31, 32, 33, 34, 35, 36, 16, 17, 18, 19, 20, 21, 22, 23, 24, 25, 26, 27, 28, 29, 30, 1, 2, 3, 4, 5, 6, 7, 8, 9, 10, 11, 12, 13, 14, 15]) rt9) se pv pa gv ga ov oa qv qa hv ha nv na yv ya cf cs)) (bs := []) rfl rfl rfl ?_
    refine XG.callV (ro := [31, 32, 33, 34, 35, 36, 16, 17, 18, 19, 20, 21, 22, 23, 24, 25, 26, 27, 28, 29, 30, 1, 2, 3, 4, 5, 6, 7, 8, 9, 10, 11, 12, 13, 14, 15]) (W1 := (dW rv ra rb rt9 (xY uv ua ub tv ta tb))) eX8_feed_17 kl_X8_80 (cc_addFour (d - 1) rv ra rb rt9 (xY uv ua ub tv ta tb) t (by omega) h0 x1) (px_fitS (by omega)) rfl ⟨rfl, by decide, by decide⟩ rfl rfl (Nat.le_of_ble_eq_true rfl) (fun r9 W9 hp9 hl9 => ?_)
    obtain ⟨rfl, rfl⟩ := hp9
    rw [pt_gd]
    show XG _ _ _ _ _ _ [] (sG 1 16 1 bv tv ta tb uv ua ub (va_up rv 0 (nI (t + 4))) (va_up ra 2 (pu4 (ra 2) t x1)) rb (px_tr (px_f [31, 32, 33, 34, 35, 36, 16, 17, 18, 19, 20, 21, 22, 23, 24, 25, 26, 27, 28, 29, 30, 1, 2, 3, 4, 5, 6, 7, 8, 9, 10, 11, 12, 13, 14, 15]) rt9) se pv pa gv ga ov oa qv qa hv ha nv na yv ya cf cs)
    refine XG.blk tX8_feed_ok 10 3 (pc' := 25) (pl' := [some (.ref 0), some (.int x1), some (.int x2), some (.int x3), some (.int x4), some (.int x5)]) (st' := [(.int x2), (.ref 31)]) (W1 := (sG 1 16 1 bv tv ta tb uv ua ub (va_up rv 0 (nI (t + 4))) (va_up ra 2 (pu4 (ra 2) t x1)) rb (px_tr (px_f [31, 32, 33, 34, 35, 36, 16, 17, 18, 19, 20, 21, 22, 23, 24, 25, 26, 27, 28, 29, 30, 1, 2, 3, 4, 5, 6, 7, 8, 9, 10, 11, 12, 13, 14, 15]) rt9) se pv pa gv ga ov oa qv qa hv ha nv na yv ya cf cs)) (bs := []) rfl rfl rfl ?_
    refine XG.callV (ro := [31, 32, 33, 34, 35, 36, 16, 17, 18, 19, 20, 21, 22, 23, 24, 25, 26, 27, 28, 29, 30, 1, 2, 3, 4, 5, 6, 7, 8, 9, 10, 11, 12, 13, 14, 15]) (W1 := (dW (va_up rv 0 (nI (t + 4))) (va_up ra 2 (pu4 (ra 2) t x1)) rb rt9 (xY uv ua ub tv ta tb))) eX8_feed_25 kl_X8_80 (cc_addFour (d - 1) (va_up rv 0 (nI (t + 4))) (va_up ra 2 (pu4 (ra 2) t x1)) rb rt9 (xY uv ua ub tv ta tb) (t + 4) (by omega) rfl x2) (px_fitS (by omega)) rfl ⟨rfl, by decide, by decide⟩ rfl rfl (Nat.le_of_ble_eq_true rfl) (fun r9 W9 hp9 hl9 => ?_)
    obtain ⟨rfl, rfl⟩ := hp9
    rw [pt_gd]
    show XG _ _ _ _ _ _ [] (sG 1 16 1 bv tv ta tb uv ua ub (va_up rv 0 (nI (t + 8))) (va_up ra 2 (pu4 (pu4 (ra 2) t x1) (t + 4) x2)) rb (px_tr (px_f [31, 32, 33, 34, 35, 36, 16, 17, 18, 19, 20, 21, 22, 23, 24, 25, 26, 27, 28, 29, 30, 1, 2, 3, 4, 5, 6, 7, 8, 9, 10, 11, 12, 13, 14, 15]) rt9) se pv pa gv ga ov oa qv qa hv ha nv na yv ya cf cs)
    refine XG.blk tX8_feed_ok 14 3 (pc' := 33) (pl' := [some (.ref 0), some (.int x1), some (.int x2), some (.int x3), some (.int x4), some (.int x5)]) (st' := [(.int x3), (.ref 31)]) (W1 := (sG 1 16 1 bv tv ta tb uv ua ub (va_up rv 0 (nI (t + 8))) (va_up ra 2 (pu4 (pu4 (ra 2) t x1) (t + 4) x2)) rb (px_tr (px_f [31, 32, 33, 34, 35, 36, 16, 17, 18, 19, 20, 21, 22, 23, 24, 25, 26, 27, 28, 29, 30, 1, 2, 3, 4, 5, 6, 7, 8, 9, 10, 11, 12, 13, 14, 15]) rt9) se pv pa gv ga ov oa qv qa hv ha nv na yv ya cf cs)) (bs := []) rfl rfl rfl ?_
    refine XG.callV (ro := [31, 32, 33, 34, 35, 36, 16, 17, 18, 19, 20, 21, 22, 23, 24, 25, 26, 27, 28, 29, 30, 1, 2, 3, 4, 5, 6, 7, 8, 9, 10, 11, 12, 13, 14, 15]) (W1 := (dW (va_up rv 0 (nI (t + 8))) (va_up ra 2 (pu4 (pu4 (ra 2) t x1) (t + 4) x2)) rb rt9 (xY uv ua ub tv ta tb))) eX8_feed_33 kl_X8_80 (cc_addFour (d - 1) (va_up rv 0 (nI (t + 8))) (va_up ra 2 (pu4 (pu4 (ra 2) t x1) (t + 4) x2)) rb rt9 (xY uv ua ub tv ta tb) (t + 8) (by omega) rfl x3) (px_fitS (by omega)) rfl ⟨rfl, by decide, by decide⟩ rfl rfl (Nat.le_of_ble_eq_true rfl) (fun r9 W9 hp9 hl9 => ?_)
    obtain ⟨rfl, rfl⟩ := hp9
    rw [pt_gd]
    show XG _ _ _ _ _ _ [] (sG 1 16 1 bv tv ta tb uv ua ub (va_up rv 0 (nI (t + 12))) (va_up ra 2 (pu4 (pu4 (pu4 (ra 2) t x1) (t + 4) x2) (t + 8) x3)) rb (px_tr (px_f [31, 32, 33, 34, 35, 36, 16, 17, 18, 19, 20, 21, 22, 23, 24, 25, 26, 27, 28, 29, 30, 1, 2, 3, 4, 5, 6, 7, 8, 9, 10, 11, 12, 13, 14, 15]) rt9) se pv pa gv ga ov oa qv qa hv ha nv na yv ya cf cs)
    refine XG.blk tX8_feed_ok 18 3 (pc' := 42) (pl' := [some (.ref 0), some (.int x1), some (.int x2), some (.int x3), some (.int x4), some (.int x5)]) (st' := [(.int x4), (.ref 31)]) (W1 := (sG 1 16 1 bv tv ta tb uv ua ub (va_up rv 0 (nI (t + 12))) (va_up ra 2 (pu4 (pu4 (pu4 (ra 2) t x1) (t + 4) x2) (t + 8) x3)) rb (px_tr (px_f [31, 32, 33, 34, 35, 36, 16, 17, 18, 19, 20, 21, 22, 23, 24, 25, 26, 27, 28, 29, 30, 1, 2, 3, 4, 5, 6, 7, 8, 9, 10, 11, 12, 13, 14, 15]) rt9) se pv pa gv ga ov oa qv qa hv ha nv na yv ya cf cs)) (bs := []) rfl rfl rfl ?_
    refine XG.callV (ro := [31, 32, 33, 34, 35, 36, 16, 17, 18, 19, 20, 21, 22, 23, 24, 25, 26, 27, 28, 29, 30, 1, 2, 3, 4, 5, 6, 7, 8, 9, 10, 11, 12, 13, 14, 15]) (W1 := (dW (va_up rv 0 (nI (t + 12))) (va_up ra 2 (pu4 (pu4 (pu4 (ra 2) t x1) (t + 4) x2) (t + 8) x3)) rb rt9 (xY uv ua ub tv ta tb))) eX8_feed_42 kl_X8_80 (cc_addFour (d - 1) (va_up rv 0 (nI (t + 12))) (va_up ra 2 (pu4 (pu4 (pu4 (ra 2) t x1) (t + 4) x2) (t + 8) x3)) rb rt9 (xY uv ua ub tv ta tb) (t + 12) (by omega) rfl x4) (px_fitS (by omega)) rfl ⟨rfl, by decide, by decide⟩ rfl rfl (Nat.le_of_ble_eq_true rfl) (fun r9 W9 hp9 hl9 => ?_)
    obtain ⟨rfl, rfl⟩ := hp9
    rw [pt_gd]
    show XG _ _ _ _ _ _ [] (sG 1 16 1 bv tv ta tb uv ua ub (va_up rv 0 (nI (t + 16))) (va_up ra 2 (pu4 (pu4 (pu4 (pu4 (ra 2) t x1) (t + 4) x2) (t + 8) x3) (t + 12) x4)) rb (px_tr (px_f [31, 32, 33, 34, 35, 36, 16, 17, 18, 19, 20, 21, 22, 23, 24, 25, 26, 27, 28, 29, 30, 1, 2, 3, 4, 5, 6, 7, 8, 9, 10, 11, 12, 13, 14, 15]) rt9) se pv pa gv ga ov oa qv qa hv ha nv na yv ya cf cs)
    refine XG.blk tX8_feed_ok 22 3 (pc' := 51) (pl' := [some (.ref 0), some (.int x1), some (.int x2), some (.int x3), some (.int x4), some (.int x5)]) (st' := [(.int x5), (.ref 31)]) (W1 := (sG 1 16 1 bv tv ta tb uv ua ub (va_up rv 0 (nI (t + 16))) (va_up ra 2 (pu4 (pu4 (pu4 (pu4 (ra 2) t x1) (t + 4) x2) (t + 8) x3) (t + 12) x4)) rb (px_tr (px_f [31, 32, 33, 34, 35, 36, 16, 17, 18, 19, 20, 21, 22, 23, 24, 25, 26, 27, 28, 29, 30, 1, 2, 3, 4, 5, 6, 7, 8, 9, 10, 11, 12, 13, 14, 15]) rt9) se pv pa gv ga ov oa qv qa hv ha nv na yv ya cf cs)) (bs := []) rfl rfl rfl ?_
    refine XG.callV (ro := [31, 32, 33, 34, 35, 36, 16, 17, 18, 19, 20, 21, 22, 23, 24, 25, 26, 27, 28, 29, 30, 1, 2, 3, 4, 5, 6, 7, 8, 9, 10, 11, 12, 13, 14, 15]) (W1 := (dW (va_up rv 0 (nI (t + 16))) (va_up ra 2 (pu4 (pu4 (pu4 (pu4 (ra 2) t x1) (t + 4) x2) (t + 8) x3) (t + 12) x4)) rb rt9 (xY uv ua ub tv ta tb))) eX8_feed_51 kl_X8_80 (cc_addFour (d - 1) (va_up rv 0 (nI (t + 16))) (va_up ra 2 (pu4 (pu4 (pu4 (pu4 (ra 2) t x1) (t + 4) x2) (t + 8) x3) (t + 12) x4)) rb rt9 (xY uv ua ub tv ta tb) (t + 16) (by omega) rfl x5) (px_fitS (by omega)) rfl ⟨rfl, by decide, by decide⟩ rfl rfl (Nat.le_of_ble_eq_true rfl) (fun r9 W9 hp9 hl9 => ?_)
    obtain ⟨rfl, rfl⟩ := hp9
    rw [pt_gd]
    show XG _ _ _ _ _ _ [] (sG 1 16 1 bv tv ta tb uv ua ub (va_up rv 0 (nI (t + 20))) (va_up ra 2 (pu4 (pu4 (pu4 (pu4 (pu4 (ra 2) t x1) (t + 4) x2) (t + 8) x3) (t + 12) x4) (t + 16) x5)) rb (px_tr (px_f [31, 32, 33, 34, 35, 36, 16, 17, 18, 19, 20, 21, 22, 23, 24, 25, 26, 27, 28, 29, 30, 1, 2, 3, 4, 5, 6, 7, 8, 9, 10, 11, 12, 13, 14, 15]) rt9) se pv pa gv ga ov oa qv qa hv ha nv na yv ya cf cs)
    refine XG.blk tX8_feed_ok 26 3 (pc' := 61) (pl' := [some (.ref 0), some (.int x1), some (.int x2), some (.int x3), some (.int x4), some (.int x5)]) (st' := [(.int (nI (t + 20)))]) (W1 := (sG 1 16 1 bv tv ta tb uv ua ub (va_up rv 0 (nI (t + 20))) (va_up ra 2 (pu4 (pu4 (pu4 (pu4 (pu4 (ra 2) t x1) (t + 4) x2) (t + 8) x3) (t + 12) x4) (t + 16) x5)) rb (px_tr (px_f [31, 32, 33, 34, 35, 36, 16, 17, 18, 19, 20, 21, 22, 23, 24, 25, 26, 27, 28, 29, 30, 1, 2, 3, 4, 5, 6, 7, 8, 9, 10, 11, 12, 13, 14, 15]) rt9) se pv pa gv ga ov oa qv qa hv ha nv na yv ya cf cs)) (bs := []) rfl rfl rfl ?_
    refine XS.iret eX8_feed_61 rfl rfl ?_
    exact Or.inr ⟨hr, rfl, rfl⟩
  · exfalso
    have h7 := Decidable.not_not.mp h7
    first | exact h7 (if_neg hr) | exact absurd h7 (by rw [if_pos hr]; decide)
set_option maxHeartbeats 4000000 in
theorem cs_feedF (d : Nat) (bv : Nat → Int32) (tv : Nat → Int32) (ta : Nat → Nat → Int32) (tb : Nat → Nat → Int64) (uv : Nat → Int32) (ua : Nat → Nat → Int32) (ub : Nat → Nat → Int64) (rv : Nat → Int32) (ra : Nat → Nat → Int32) (rb : Nat → Nat → Int64) (rt9 : Value) (se : Nat → Int32) (pv : Nat → Int32) (pa : Nat → Nat → Int32) (gv : Nat → Int32) (ga : Nat → Nat → Int32) (ov : Nat → Int32) (oa : Nat → Nat → Int32) (qv : Nat → Int32) (qa : Nat → Nat → Int32) (hv : Nat → Int32) (ha : Nat → Nat → Int32) (nv : Nat → Int32) (na : Nat → Nat → Int32) (yv : Nat → Int32) (ya : Nat → Nat → Int32) (cf : Nat → Int32) (cs : Nat → Int32) (t : Nat) (h0 : rv 0 = nI t) (ht : t ≤ 2000) (hr : ¬ t + 20 ≤ 2000) (x1 x2 x3 x4 x5 : Int32) (hd : 2 ≤ d) : Con mX8_feed d [.ref 0, .int x1, .int x2, .int x3, .int x4, .int x5] (sG 1 16 1 bv tv ta tb uv ua ub rv ra rb (px_tr (px_f [31, 32, 33, 34, 35, 36, 16, 17, 18, 19, 20, 21, 22, 23, 24, 25, 26, 27, 28, 29, 30, 1, 2, 3, 4, 5, 6, 7, 8, 9, 10, 11, 12, 13, 14, 15]) rt9) se pv pa gv ga ov oa qv qa hv ha nv na yv ya cf cs) (fun r W' => (2000 < t + 20 ∧ W' = (sG 1 16 1 bv tv ta tb uv ua ub rv ra rb (px_tr (px_f [31, 32, 33, 34, 35, 36, 16, 17, 18, 19, 20, 21, 22, 23, 24, 25, 26, 27, 28, 29, 30, 1, 2, 3, 4, 5, 6, 7, 8, 9, 10, 11, 12, 13, 14, 15]) rt9) se pv pa gv ga ov oa qv qa hv ha nv na yv ya cf cs) ∧ r = some (.int (-1))) ∨ (t + 20 ≤ 2000 ∧ W' = (sG 1 16 1 bv tv ta tb uv ua ub (va_up rv 0 (nI (t + 20))) (va_up ra 2 (fd5 (ra 2) t x1 x2 x3 x4 x5)) rb (px_tr (px_f [31, 32, 33, 34, 35, 36, 16, 17, 18, 19, 20, 21, 22, 23, 24, 25, 26, 27, 28, 29, 30, 1, 2, 3, 4, 5, 6, 7, 8, 9, 10, 11, 12, 13, 14, 15]) rt9) se pv pa gv ga ov oa qv qa hv ha nv na yv ya cf cs) ∧ r = some (.int (nI (t + 20))))) := by
  refine Con.of (by decide) (Nat.le_of_ble_eq_true rfl) ?_
  refine XG.blk tX8_feed_ok 0 2 (pc' := 4) (pl' := [some (.ref 0), some (.int x1), some (.int x2), some (.int x3), some (.int x4), some (.int x5)]) (st' := [(.ref 31)]) (W1 := (sG 1 16 1 bv tv ta tb uv ua ub rv ra rb (px_tr (px_f [31, 32, 33, 34, 35, 36, 16, 17, 18, 19, 20, 21, 22, 23, 24, 25, 26, 27, 28, 29, 30, 1, 2, 3, 4, 5, 6, 7, 8, 9, 10, 11, 12, 13, 14, 15]) rt9) se pv pa gv ga ov oa qv qa hv ha nv na yv ya cf cs)) (bs := []) rfl rfl rfl ?_
  refine XG.callV (ro := [31, 32, 33, 34, 35, 36, 16, 17, 18, 19, 20, 21, 22, 23, 24, 25, 26, 27, 28, 29, 30, 1, 2, 3, 4, 5, 6, 7, 8, 9, 10, 11, 12, 13, 14, 15]) (W1 := (dW rv ra rb rt9 (xY uv ua ub tv ta tb))) eX8_feed_4 kl_X8_76 (cc_hasRoom (d - 1) rv ra rb rt9 (xY uv ua ub tv ta tb) t (by omega) h0) (px_fitS (by omega)) rfl ⟨rfl, by decide, by decide⟩ rfl rfl (Nat.le_of_ble_eq_true rfl) (fun r9 W9 hp9 hl9 => ?_)
  obtain ⟨rfl, rfl⟩ := hp9
  rw [pt_gd]
  show XG _ _ _ _ _ _ [(.int (if t + 20 ≤ 2000 then 1 else 0))] (sG 1 16 1 bv tv ta tb uv ua ub rv ra rb (px_tr (px_f [31, 32, 33, 34, 35, 36, 16, 17, 18, 19, 20, 21, 22, 23, 24, 25, 26, 27, 28, 29, 30, 1, 2, 3, 4, 5, 6, 7, 8, 9, 10, 11, 12, 13, 14, 15]) rt9) se pv pa gv ga ov oa qv qa hv ha nv na yv ya cf cs)
  refine XG.br eX8_feed_7 (P := ¬ (if t + 20 ≤ 2000 then 1 else 0) = 0) (r := []) rfl (tgt := 12) (by decide) (fun h7 => ?_) (fun h7 => ?_)
  · exfalso
    first | exact h7 (if_neg hr) | exact absurd h7 (by rw [if_pos hr]; decide)
  · skip
    have h7 := Decidable.not_not.mp h7
    refine XG.blk tX8_feed_ok 4 1 (pc' := 11) (pl' := [some (.ref 0), some (.int x1), some (.int x2), some (.int x3), some (.int x4), some (.int x5)]) (st' := [(.int (-1))]) (W1 := (sG 1 16 1 bv tv ta tb uv ua ub rv ra rb (px_tr (px_f [31, 32, 33, 34, 35, 36, 16, 17, 18, 19, 20, 21, 22, 23, 24, 25, 26, 27, 28, 29, 30, 1, 2, 3, 4, 5, 6, 7, 8, 9, 10, 11, 12, 13, 14, 15]) rt9) se pv pa gv ga ov oa qv qa hv ha nv na yv ya cf cs)) (bs := []) rfl rfl rfl ?_
    refine XS.iret eX8_feed_11 rfl rfl ?_
    exact Or.inl ⟨by omega, rfl, rfl⟩
theorem cs_feed (d : Nat) (bv : Nat → Int32) (tv : Nat → Int32) (ta : Nat → Nat → Int32) (tb : Nat → Nat → Int64) (uv : Nat → Int32) (ua : Nat → Nat → Int32) (ub : Nat → Nat → Int64) (rv : Nat → Int32) (ra : Nat → Nat → Int32) (rb : Nat → Nat → Int64) (rt9 : Value) (se : Nat → Int32) (pv : Nat → Int32) (pa : Nat → Nat → Int32) (gv : Nat → Int32) (ga : Nat → Nat → Int32) (ov : Nat → Int32) (oa : Nat → Nat → Int32) (qv : Nat → Int32) (qa : Nat → Nat → Int32) (hv : Nat → Int32) (ha : Nat → Nat → Int32) (nv : Nat → Int32) (na : Nat → Nat → Int32) (yv : Nat → Int32) (ya : Nat → Nat → Int32) (cf : Nat → Int32) (cs : Nat → Int32) (t : Nat) (h0 : rv 0 = nI t) (ht : t ≤ 2000) (x1 x2 x3 x4 x5 : Int32) (hd : 2 ≤ d) : Con mX8_feed d [.ref 0, .int x1, .int x2, .int x3, .int x4, .int x5] (sG 1 16 1 bv tv ta tb uv ua ub rv ra rb (px_tr (px_f [31, 32, 33, 34, 35, 36, 16, 17, 18, 19, 20, 21, 22, 23, 24, 25, 26, 27, 28, 29, 30, 1, 2, 3, 4, 5, 6, 7, 8, 9, 10, 11, 12, 13, 14, 15]) rt9) se pv pa gv ga ov oa qv qa hv ha nv na yv ya cf cs) (fun r W' => (2000 < t + 20 ∧ W' = (sG 1 16 1 bv tv ta tb uv ua ub rv ra rb (px_tr (px_f [31, 32, 33, 34, 35, 36, 16, 17, 18, 19, 20, 21, 22, 23, 24, 25, 26, 27, 28, 29, 30, 1, 2, 3, 4, 5, 6, 7, 8, 9, 10, 11, 12, 13, 14, 15]) rt9) se pv pa gv ga ov oa qv qa hv ha nv na yv ya cf cs) ∧ r = some (.int (-1))) ∨ (t + 20 ≤ 2000 ∧ W' = (sG 1 16 1 bv tv ta tb uv ua ub (va_up rv 0 (nI (t + 20))) (va_up ra 2 (fd5 (ra 2) t x1 x2 x3 x4 x5)) rb (px_tr (px_f [31, 32, 33, 34, 35, 36, 16, 17, 18, 19, 20, 21, 22, 23, 24, 25, 26, 27, 28, 29, 30, 1, 2, 3, 4, 5, 6, 7, 8, 9, 10, 11, 12, 13, 14, 15]) rt9) se pv pa gv ga ov oa qv qa hv ha nv na yv ya cf cs) ∧ r = some (.int (nI (t + 20))))) := by
  by_cases hr : t + 20 ≤ 2000
  · exact cs_feedS d bv tv ta tb uv ua ub rv ra rb rt9 se pv pa gv ga ov oa qv qa hv ha nv na yv ya cf cs t h0 ht hr x1 x2 x3 x4 x5 hd
  · exact cs_feedF d bv tv ta tb uv ua ub rv ra rb rt9 se pv pa gv ga ov oa qv qa hv ha nv na yv ya cf cs t h0 ht hr x1 x2 x3 x4 x5 hd
