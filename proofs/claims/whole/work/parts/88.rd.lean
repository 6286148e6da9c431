/-! the reference: read -/
set_option maxHeartbeats 1000000 in
theorem con_read (d : Nat) (v : Nat → Int32) (a : Nat → Nat → Int32) (b : Nat → Nat → Int64) (lv sd n : Nat) (hls : lv + sd = 1) (h18 : v 18 = nI lv) (h2 : v 2 = nI n) (hn : n ≤ 2000) (hK : ∀ q, q < 22 → b 9 q = lN (enc 27 (wds.getD q []))) (hd : 9 ≤ d) : Con mX9_read d [.ref 0] (mW v a b) (rdPost (lexK (bytesOf (a 1)) n) sd v a b) := by
  refine Con.of (by decide) (Nat.le_of_ble_eq_true rfl) ?_
  have q1 : (v 2) = (nI n) := h2
  refine XG.blk tX9_read_ok 0 6 (pc' := 10) (pl' := [some (.ref 0), some (.int (nI 0))]) (st' := []) (W1 := (mW (va_up v 4 (v 2)) a b)) (bs := []) rfl rfl rfl ?_
  simp only [q1]
  rw [show mW (va_up v 4 (nI n)) a b = mW (va_up v 4 (nI n)) (va_up a 3 (cpB (a 1) (a 3) 0)) b by rw [cpB_0, va_up_id]]
  refine px_for n (fun i => XG mX9_read _ 0 0 10 [some (.ref 0), some (.int (nI i))] [] (mW (va_up v 4 (nI n)) (va_up a 3 (cpB (a 1) (a 3) i)) b)) ?_ ?_ 0 (Nat.zero_le _)
  · skip
    refine XG.blk tX9_read_ok 6 3 (pc' := 15) (pl' := [some (.ref 0), some (.int (nI n))]) (st' := [(.int (nI n)), (.int (nI n))]) (W1 := (mW (va_up v 4 (nI n)) (va_up a 3 (cpB (a 1) (a 3) n)) b)) (bs := []) rfl rfl rfl ?_
    refine XG.br eX9_read_15 (P := (nI n) ≤ (nI n)) (r := []) rfl (tgt := 36) (by decide) (fun h15 => ?_) (fun h15 => ?_)
    · skip
      have g15 : n ≤ n := (nI_leI (a := n) (b := n) (by omega) (by omega)).mp h15
      refine XG.blk tX9_read_ok 20 4 (pc' := 42) (pl' := [some (.ref 0), some (.int (nI n))]) (st' := [(.ref 0)]) (W1 := (mW (va_up (va_up v 4 (nI n)) 2 (nI 0)) (va_up a 3 (cpB (a 1) (a 3) n)) b)) (bs := []) rfl rfl rfl ?_
      refine XG.callV0 eX9_read_42 kl_X9_239 (con_cut (d - 1) (by omega) (va_up (va_up v 4 (nI n)) 2 (nI 0)) (va_up a 3 (cpB (a 1) (a 3) n)) b (bytesOf (a 1)) n ⟨rfl, hn, fun j hj => by show cpB (a 1) (a 3) n j &&& nI 255 = _ ∧ _; rw [show cpB (a 1) (a 3) n j = vp_nar .byte (a 1 j) from if_pos hj]; exact and255 _⟩ hK) (px_fitS (by omega)) rfl rfl rfl (Nat.le_of_ble_eq_true rfl) (fun r9 W9 hp9 hl9 => ?_)
      obtain ⟨v1, a1, b1, rfl, hc1, ha1, hb1, hT1, rfl⟩ := hp9
      have g18 : v1 18 = nI lv := (hc1 18 (by decide)).trans h18
      have q2 : (v1 18) = (nI lv) := g18
      have q3 : ((nI 1) - (nI lv)) = (nI sd) := (by rw [show sd = 1 - lv by omega]; exact px_esub rfl rfl (by omega))
      refine XG.blk tX9_read_ok 25 24 (pc' := 85) (pl' := [some (.ref 0), some (.int (nI n))]) (st' := [(.int ((nI 1) - (v1 18))), (.ref 0)]) (W1 := (mW (va_up (va_up (va_up (va_up (va_up (va_up v1 11 (nI 0)) 12 (nI 0)) 13 (nI 0)) 15 (nI 0)) 19 ((nI 1) - (v1 18))) 20 (nI 0)) a1 b1)) (bs := []) rfl rfl rfl ?_
      simp only [q2, q3]
      refine XG.callV0 eX9_read_85 kl_X9_164 (con_plain (d - 1) (va_up (va_up (va_up (va_up (va_up (va_up v1 11 (nI 0)) 12 (nI 0)) 13 (nI 0)) 15 (nI 0)) 19 (nI sd)) 20 (nI 0)) a1 b1 sd (by omega)) (px_fitS (by omega)) rfl rfl rfl (Nat.le_of_ble_eq_true rfl) (fun r9 W9 hp9 hl9 => ?_)
      obtain ⟨rfl, rfl⟩ := hp9
      have q4 : ((nI 130) * (nI sd)) = (nI (130 * sd)) := px_emul rfl rfl
      have q5 : ((nI 420) * (nI sd)) = (nI (420 * sd)) := px_emul rfl rfl
      refine XG.blk tX9_read_ok 50 12 (pc' := 112) (pl' := [some (.ref 0), some (.int (nI n))]) (st' := []) (W1 := (mW (va_up (va_up (va_up (va_up (va_up (va_up (va_up (va_up v1 11 (nI 0)) 12 (nI 0)) 13 (nI 0)) 15 (nI 0)) 19 (nI sd)) 20 (nI 0)) 40 ((nI 130) * (nI sd))) 46 ((nI 420) * (nI sd))) (plnF a1 sd) b1)) (bs := []) rfl rfl rfl ?_
      simp only [q4, q5]
      obtain ⟨v2, hv2⟩ : ∃ z, z = (va_up (va_up (va_up (va_up (va_up (va_up (va_up (va_up v1 11 (nI 0)) 12 (nI 0)) 13 (nI 0)) 15 (nI 0)) 19 (nI sd)) 20 (nI 0)) 40 (nI (130 * sd))) 46 (nI (420 * sd))) := ⟨_, rfl⟩
      rw [← hv2]
      have g19 : v2 19 = nI sd := by rw [hv2]; rfl
      have hT2 : Tok (lexK (bytesOf (a 1)) n) (plnF a1 sd) b1 := by
        unfold Tok at hT1 ⊢
        rw [pln_chg a1 sd 5 (by decide), pln_chg a1 sd 6 (by decide), pln_chg a1 sd 7 (by decide)]
        exact hT1
      have hfv : chg rdV v v2 := by
        intro k hk
        rw [hv2]
        have hne : ∀ z, z ∈ rdV → k ≠ z := fun z hz e => hk (by rw [e]; exact hz)
        show (if k = 46 then _ else if k = 40 then _ else if k = 20 then _ else if k = 19 then _ else if k = 15 then _ else if k = 13 then _ else if k = 12 then _ else if k = 11 then _ else v1 k) = v k
        rw [if_neg (hne 46 (by decide)), if_neg (hne 40 (by decide)), if_neg (hne 20 (by decide)), if_neg (hne 19 (by decide)), if_neg (hne 15 (by decide)), if_neg (hne 13 (by decide)), if_neg (hne 12 (by decide)), if_neg (hne 11 (by decide)), hc1 k (fun z => by simp only [List.mem_singleton] at z; exact hne 10 (by decide) z)]
        show (if k = 2 then _ else if k = 4 then _ else v k) = v k
        rw [if_neg (hne 2 (by decide)), if_neg (hne 4 (by decide))]
      have hfa : rdFr sd a (plnF a1 sd) := by
        intro k hk j hj
        rw [pln_fr a1 sd k j hj, ha1 k (fun z => hk (by revert z; simp only [List.mem_cons, List.not_mem_nil, or_false]; omega))]
        show (if k = 3 then _ else a k) j = a k j
        rw [if_neg (fun e => hk (by rw [e]; decide))]
      have hfb : chg [8, 21] b b1 := hb1.mono (by decide)
      have g2 : v2 2 = nI 0 := by rw [hv2]; exact hc1 2 (by decide)
      have frA : ∀ a3 : Nat → Nat → Int32, (∀ k, k ≠ 22 → k ≠ 49 → ∀ j, ¬ (strd k * sd ≤ j ∧ j < strd k * sd + strd k) → a3 k j = plnF a1 sd k j) → rdFr sd a a3 := fun a3 h3 k hk j hj => (h3 k (fun e => hk (by rw [e]; decide)) (fun e => hk (by rw [e]; decide)) j hj).trans (hfa k hk j hj)
      refine XG.weak (pl' := [some (.ref 0), none]) ⟨rfl, trivial⟩ ?_
      refine read_go d (by omega) _ sd (by omega) _ v2 (plnF a1 sd) b1 g19 hT2 (lex_sm _ _) [] _ ?_ ?_ 400 ((0, none), plainD) v2 (plnF a1 sd) b1 rfl ⟨by decide, by rw [hv2]; rfl, by rw [hv2]; rfl, fun i hi => absurd hi (Nat.not_lt_zero i), by rw [hv2]; rfl⟩ (RD_plain (by rw [hv2]; rfl) (by rw [hv2]; rfl) (by rw [hv2]; rfl) (by rw [hv2]; rfl)) inv_plain (by decide) FrR.rf
      · intro v3 a3 b3 e hR hP hF3
        have hx13 : ¬ v3 13 = 0 := by rw [hP.2.1]; exact nI_nz (by have := hP.1; omega) (by have := hP.1; omega)
        have hx14 : ¬ v3 13 ≤ 0 := by rw [hP.2.1]; exact Int32.not_le.mpr (n1_pos (by have := hP.1; omega) (by have := hP.1; omega))
        have g193 : v3 19 = nI sd := (hF3.1 19 (by decide)).trans g19
        have hrd : readS (lexK (bytesOf (a 1)) n) = .inl (e.1, (lexK (bytesOf (a 1)) n).2.1 e.2) := by unfold readS; rw [hR]
        have q6 : (v3 19) = (nI sd) := g193
        have q7 : (nI sd).toNatClampNeg = sd := nI_clamp (by omega)
        refine XG.blk tX9_read_ok 72 8 (pc' := 146) (pl' := [some (.ref 0), some (.int (nI 0))]) (st' := [(.int ((a3 24) (v3 19).toNatClampNeg)), (.int (nI 0))]) (W1 := (mW v3 a3 b3)) (bs := [px_vb (v3 19) 2]) rfl rfl (by (try simp only [q6, q7]); exact (px_all (px_vbN (by omega) (by decide)) rfl)) ?_
        simp only [q6, q7]
        refine XG.br eX9_read_146 (P := ((a3 24) sd) ≤ (nI 0)) (r := []) rfl (tgt := 197) (by decide) (fun h146 => ?_) (fun h146 => ?_)
        · skip
          refine XG.blk tX9_read_ok 106 3 (pc' := 202) (pl' := [some (.ref 0), some (.int (nI 0))]) (st' := [(.int (v3 13)), (.ref 0)]) (W1 := (mW v3 a3 b3)) (bs := []) rfl rfl rfl ?_
          refine XG.br eX9_read_202 (P := (v3 13) ≤ 0) (r := [(.ref 0)]) rfl (tgt := 212) (by decide) (fun h202 => ?_) (fun h202 => ?_)
          · exfalso
            first | exact hx14 h202 | exact h202 gi14
          · skip
            refine XG.blk tX9_read_ok 110 2 (pc' := 209) (pl' := [some (.ref 0), some (.int (nI 0))]) (st' := [(.int (v3 14)), (.ref 0)]) (W1 := (mW v3 a3 b3)) (bs := []) rfl rfl rfl ?_
            refine XG.goto eX9_read_209 (tgt := 227) (by decide) ?_
            refine XG.blk tX9_read_ok 120 3 (pc' := 234) (pl' := [some (.ref 0), some (.int (nI 0))]) (st' := [(.int (v3 13))]) (W1 := (mW (va_up v3 17 (v3 14)) a3 b3)) (bs := []) rfl rfl rfl ?_
            refine XG.br eX9_read_234 (P := (v3 13) ≤ 0) (r := []) rfl (tgt := 242) (by decide) (fun h234 => ?_) (fun h234 => ?_)
            · exfalso
              first | exact hx14 h234 | exact h234 gi14
            · skip
              refine XG.blk tX9_read_ok 124 2 (pc' := 241) (pl' := [some (.ref 0), some (.int (nI 0))]) (st' := [(.int (v3 13))]) (W1 := (mW (va_up v3 17 (v3 14)) a3 b3)) (bs := []) rfl rfl rfl ?_
              refine XS.iret eX9_read_241 rfl rfl ?_
              refine ⟨_, _, _, rfl, ?_, hfb.tr (hF3.2.2.mono (by decide)), Or.inl ⟨_, hrd, by rw [hP.2.1], hP.2.2.1, ?_, frA _ hF3.2.1⟩⟩
              · exact (hF3.1 2 (by decide)).trans g2
              · exact (hfv.tr (hF3.1.mono (by decide))).tr (chg.up (by decide))
        · skip
          refine XG.blk tX9_read_ok 81 2 (pc' := 153) (pl' := [some (.ref 0), some (.int (nI 0))]) (st' := [(.int (v3 13))]) (W1 := (mW v3 a3 b3)) (bs := []) rfl rfl rfl ?_
          refine XG.br eX9_read_153 (P := ¬ (v3 13) = 0) (r := []) rfl (tgt := 197) (by decide) (fun h153 => ?_) (fun h153 => ?_)
          · skip
            refine XG.blk tX9_read_ok 106 3 (pc' := 202) (pl' := [some (.ref 0), some (.int (nI 0))]) (st' := [(.int (v3 13)), (.ref 0)]) (W1 := (mW v3 a3 b3)) (bs := []) rfl rfl rfl ?_
            refine XG.br eX9_read_202 (P := (v3 13) ≤ 0) (r := [(.ref 0)]) rfl (tgt := 212) (by decide) (fun h202 => ?_) (fun h202 => ?_)
            · exfalso
              first | exact hx14 h202 | exact h202 gi14
            · skip
              refine XG.blk tX9_read_ok 110 2 (pc' := 209) (pl' := [some (.ref 0), some (.int (nI 0))]) (st' := [(.int (v3 14)), (.ref 0)]) (W1 := (mW v3 a3 b3)) (bs := []) rfl rfl rfl ?_
              refine XG.goto eX9_read_209 (tgt := 227) (by decide) ?_
              refine XG.blk tX9_read_ok 120 3 (pc' := 234) (pl' := [some (.ref 0), some (.int (nI 0))]) (st' := [(.int (v3 13))]) (W1 := (mW (va_up v3 17 (v3 14)) a3 b3)) (bs := []) rfl rfl rfl ?_
              refine XG.br eX9_read_234 (P := (v3 13) ≤ 0) (r := []) rfl (tgt := 242) (by decide) (fun h234 => ?_) (fun h234 => ?_)
              · exfalso
                first | exact hx14 h234 | exact h234 gi14
              · skip
                refine XG.blk tX9_read_ok 124 2 (pc' := 241) (pl' := [some (.ref 0), some (.int (nI 0))]) (st' := [(.int (v3 13))]) (W1 := (mW (va_up v3 17 (v3 14)) a3 b3)) (bs := []) rfl rfl rfl ?_
                refine XS.iret eX9_read_241 rfl rfl ?_
                refine ⟨_, _, _, rfl, ?_, hfb.tr (hF3.2.2.mono (by decide)), Or.inl ⟨_, hrd, by rw [hP.2.1], hP.2.2.1, ?_, frA _ hF3.2.1⟩⟩
                · exact (hF3.1 2 (by decide)).trans g2
                · exact (hfv.tr (hF3.1.mono (by decide))).tr (chg.up (by decide))
          · exfalso
            have h153 := Decidable.not_not.mp h153
            first | exact hx13 h153 | exact h153 gi13
      · intro v3 a3 b3 q hR hP hD hI hk0 hF3
        have hx13 : v3 13 = 0 := hP.2.2.1
        have g193 : v3 19 = nI sd := (hF3.1 19 (by decide)).trans g19
        have g11 : v3 11 = nI q.1.1 := hP.2.1
        have ht : q.1.1 ≤ 400 := hP.1
        have hs6 := hI.2.1.1
        have hT3 := hF3.tok hT2
        have hK3 := hT3 q.1.1 hP.1 hP.2.2.2.1
        have hpl : (lexK (bytesOf (a 1)) n).2.1 q.1.1 ≤ 2000 := hK3.2.2.2.2.2.1
        have hb4 := hI.2.2.2
        have hb23 := hb4.1
        have h24 := hD.1 24 (by decide)
        have h23 := hD.1 23 (by decide)
        refine XG.blk tX9_read_ok 72 2 (pc' := 136) (pl' := [some (.ref 0), some (.int (nI 0))]) (st' := []) (W1 := (mW v3 a3 b3)) (bs := []) rfl rfl rfl ?_
        refine px_for (q.2.1 24) (fun i => ∀ (vi : Nat → Int32) (hci : chg [15, 16] v3 vi) (hwi : wR0 (oW (lexK (bytesOf (a 1)) n) q i) vi), XG mX9_read _ 0 0 136 [some (.ref 0), some (.int (nI i))] [] (mW vi a3 b3)) ?_ ?_ 0 (Nat.zero_le _) v3 chg.rf hP.w0
        · intro vi hci hwi
          have gi19 : vi 19 = nI sd := (hci 19 (by decide)).trans g193
          have gi11 : vi 11 = nI q.1.1 := (hci 11 (by decide)).trans g11
          have gi13 : vi 13 = nI 0 := (hci 13 (by decide)).trans hx13
          have q8 : (vi 19) = (nI sd) := gi19
          have q9 : (nI sd).toNatClampNeg = sd := nI_clamp (by omega)
          have q10 : ((a3 24) sd) = (nI (q.2.1 24)) := h24
          refine XG.blk tX9_read_ok 74 6 (pc' := 146) (pl' := [some (.ref 0), some (.int (nI (q.2.1 24)))]) (st' := [(.int ((a3 24) (vi 19).toNatClampNeg)), (.int (nI (q.2.1 24)))]) (W1 := (mW vi a3 b3)) (bs := [px_vb (vi 19) 2]) rfl rfl (by (try simp only [q8, q9, q10]); exact (px_all (px_vbN (by omega) (by decide)) rfl)) ?_
          simp only [q8, q9, q10]
          refine XG.br eX9_read_146 (P := (nI (q.2.1 24)) ≤ (nI (q.2.1 24))) (r := []) rfl (tgt := 197) (by decide) (fun h146 => ?_) (fun h146 => ?_)
          · skip
            have g146 : (q.2.1 24) ≤ (q.2.1 24) := (nI_leI (a := (q.2.1 24)) (b := (q.2.1 24)) (by omega) (by omega)).mp h146
            have gi14 : vi 13 ≤ 0 := by rw [gi13]; decide
            have hvi : chg rdV v vi := (hfv.tr (hF3.1.mono (by decide))).tr (hci.mono (by decide))
            have gi2 : vi 2 = nI 0 := ((hci 2 (by decide)).trans (hF3.1 2 (by decide))).trans g2
            have hfb3 : chg [8, 21] b b3 := hfb.tr (hF3.2.2.mono (by decide))
            have hrd : readS (lexK (bytesOf (a 1)) n) = match oW (lexK (bytesOf (a 1)) n) q (q.2.1 24) with | some w => .inl w | none => .inr q.2 := by
              unfold readS; rw [hR]; rfl
            cases hw : oW (lexK (bytesOf (a 1)) n) q (q.2.1 24) with
            | some w =>
              rw [hw] at hwi hrd
              have hx15 : ¬ vi 15 ≤ 0 := by rw [hwi.1]; exact Int32.not_le.mpr (n1_pos (by have := hwi.2.2; omega) (by have := hwi.2.2; omega))
              refine XG.blk tX9_read_ok 106 3 (pc' := 202) (pl' := [some (.ref 0), some (.int (nI (q.2.1 24)))]) (st' := [(.int (vi 13)), (.ref 0)]) (W1 := (mW vi a3 b3)) (bs := []) rfl rfl rfl ?_
              refine XG.br eX9_read_202 (P := (vi 13) ≤ 0) (r := [(.ref 0)]) rfl (tgt := 212) (by decide) (fun h202 => ?_) (fun h202 => ?_)
              · skip
                refine XG.blk tX9_read_ok 113 2 (pc' := 216) (pl' := [some (.ref 0), some (.int (nI (q.2.1 24)))]) (st' := [(.int (vi 15)), (.ref 0)]) (W1 := (mW vi a3 b3)) (bs := []) rfl rfl rfl ?_
                refine XG.br eX9_read_216 (P := (vi 15) ≤ 0) (r := [(.ref 0)]) rfl (tgt := 226) (by decide) (fun h216 => ?_) (fun h216 => ?_)
                · exfalso
                  first | exact hx15 h216 | exact h216 hx15
                · skip
                  refine XG.blk tX9_read_ok 116 2 (pc' := 223) (pl' := [some (.ref 0), some (.int (nI (q.2.1 24)))]) (st' := [(.int (vi 16)), (.ref 0)]) (W1 := (mW vi a3 b3)) (bs := []) rfl rfl rfl ?_
                  refine XG.goto eX9_read_223 (tgt := 227) (by decide) ?_
                  refine XG.blk tX9_read_ok 120 3 (pc' := 234) (pl' := [some (.ref 0), some (.int (nI (q.2.1 24)))]) (st' := [(.int (vi 13))]) (W1 := (mW (va_up vi 17 (vi 16)) a3 b3)) (bs := []) rfl rfl rfl ?_
                  refine XG.br eX9_read_234 (P := (vi 13) ≤ 0) (r := []) rfl (tgt := 242) (by decide) (fun h234 => ?_) (fun h234 => ?_)
                  · skip
                    refine XG.blk tX9_read_ok 127 2 (pc' := 246) (pl' := [some (.ref 0), some (.int (nI (q.2.1 24)))]) (st' := [(.int (vi 15))]) (W1 := (mW (va_up vi 17 (vi 16)) a3 b3)) (bs := []) rfl rfl rfl ?_
                    refine XG.br eX9_read_246 (P := (vi 15) ≤ 0) (r := []) rfl (tgt := 254) (by decide) (fun h246 => ?_) (fun h246 => ?_)
                    · exfalso
                      first | exact hx15 h246 | exact h246 hx15
                    · skip
                      refine XG.blk tX9_read_ok 130 2 (pc' := 253) (pl' := [some (.ref 0), some (.int (nI (q.2.1 24)))]) (st' := [(.int (vi 15))]) (W1 := (mW (va_up vi 17 (vi 16)) a3 b3)) (bs := []) rfl rfl rfl ?_
                      refine XS.iret eX9_read_253 rfl rfl ?_
                      exact ⟨_, _, _, rfl, gi2, hfb3, Or.inl ⟨w, hrd, by rw [hwi.1], hwi.2.1, hvi.tr (chg.up (by decide)), frA _ hF3.2.1⟩⟩
                  · exfalso
                    first | exact hx14 h234 | exact h234 gi14
              · exfalso
                first | exact hx14 h202 | exact h202 gi14
            | none =>
              rw [hw] at hwi hrd
              have hx15 : vi 15 ≤ 0 := by rw [show vi 15 = nI 0 from hwi]; decide
              have hrI := read_inv (lex_sm _ _) hrd
              have hTx := hD.tx ht
              refine XG.blk tX9_read_ok 106 3 (pc' := 202) (pl' := [some (.ref 0), some (.int (nI (q.2.1 24)))]) (st' := [(.int (vi 13)), (.ref 0)]) (W1 := (mW vi a3 b3)) (bs := []) rfl rfl rfl ?_
              refine XG.br eX9_read_202 (P := (vi 13) ≤ 0) (r := [(.ref 0)]) rfl (tgt := 212) (by decide) (fun h202 => ?_) (fun h202 => ?_)
              · skip
                refine XG.blk tX9_read_ok 113 2 (pc' := 216) (pl' := [some (.ref 0), some (.int (nI (q.2.1 24)))]) (st' := [(.int (vi 15)), (.ref 0)]) (W1 := (mW vi a3 b3)) (bs := []) rfl rfl rfl ?_
                refine XG.br eX9_read_216 (P := (vi 15) ≤ 0) (r := [(.ref 0)]) rfl (tgt := 226) (by decide) (fun h216 => ?_) (fun h216 => ?_)
                · skip
                  refine XG.blk tX9_read_ok 119 4 (pc' := 234) (pl' := [some (.ref 0), some (.int (nI (q.2.1 24)))]) (st' := [(.int (vi 13))]) (W1 := (mW (va_up vi 17 (-1)) a3 b3)) (bs := []) rfl rfl rfl ?_
                  refine XG.br eX9_read_234 (P := (vi 13) ≤ 0) (r := []) rfl (tgt := 242) (by decide) (fun h234 => ?_) (fun h234 => ?_)
                  · skip
                    refine XG.blk tX9_read_ok 127 2 (pc' := 246) (pl' := [some (.ref 0), some (.int (nI (q.2.1 24)))]) (st' := [(.int (vi 15))]) (W1 := (mW (va_up vi 17 (-1)) a3 b3)) (bs := []) rfl rfl rfl ?_
                    refine XG.br eX9_read_246 (P := (vi 15) ≤ 0) (r := []) rfl (tgt := 254) (by decide) (fun h246 => ?_) (fun h246 => ?_)
                    · skip
                      have q11 : (vi 19) = (nI sd) := gi19
                      refine XG.blk tX9_read_ok 133 5 (pc' := 263) (pl' := [some (.ref 0), some (.int (nI (q.2.1 24)))]) (st' := [(.ref 0)]) (W1 := (mW (va_up (va_up vi 17 (-1)) 18 (vi 19)) a3 b3)) (bs := []) rfl rfl rfl ?_
                      simp only [q11]
                      refine XG.callV0 eX9_read_263 kl_X9_172 (con_begins (d - 1) (va_up (va_up vi 17 (-1)) 18 (nI sd)) a3 b3 sd _ _ _ (hTx.mi hrI.1 hrI.2.1 rfl (by omega)) (by omega)) (px_fitS (by omega)) rfl rfl rfl (Nat.le_of_ble_eq_true rfl) (fun r9 W9 hp9 hl9 => ?_)
                      obtain ⟨rfl, rfl⟩ := hp9
                      refine XG.blk tX9_read_ok 139 1 (pc' := 267) (pl' := [some (.ref 0), some (.int (nI (q.2.1 24)))]) (st' := [(.ref 0)]) (W1 := (mW (va_up (va_up (va_up (va_up vi 17 (-1)) 18 (nI sd)) 56 (a3 37 sd)) 57 (nI 0)) (va_up a3 55 (bgR a3 sd (q.2.1 24))) b3)) (bs := []) rfl rfl rfl ?_
                      refine XG.callV0 eX9_read_267 kl_X9_175 (con_keepsRow' (d - 1) (va_up (va_up (va_up (va_up vi 17 (-1)) 18 (nI sd)) 56 (a3 37 sd)) 57 (nI 0)) (va_up a3 55 (bgR a3 sd (q.2.1 24))) b3) (px_fitS (by omega)) rfl rfl rfl (Nat.le_of_ble_eq_true rfl) (fun r9 W9 hp9 hl9 => ?_)
                      obtain ⟨rfl, rfl⟩ := hp9
                      refine XG.blk tX9_read_ok 141 8 (pc' := 282) (pl' := [some (.ref 0), some (.int (nI 0))]) (st' := []) (W1 := (mW (va_up (va_up (va_up (va_up (va_up (va_up vi 17 (-1)) 18 (nI sd)) 56 (a3 37 sd)) 57 (nI 0)) 61 (nI 0)) 69 (nI 0)) (va_up (va_up a3 55 (bgR a3 sd (q.2.1 24))) 54 (bgR a3 sd (q.2.1 24))) b3)) (bs := []) rfl rfl rfl ?_
                      obtain ⟨v9, hv9⟩ : ∃ z, z = (va_up (va_up (va_up (va_up (va_up (va_up vi 17 (-1)) 18 (nI sd)) 56 (a3 37 sd)) 57 (nI 0)) 61 (nI 0)) 69 (nI 0)) := ⟨_, rfl⟩
                      obtain ⟨a9, ha9⟩ : ∃ z, z = (va_up (va_up a3 55 (bgR a3 sd (q.2.1 24))) 54 (bgR a3 sd (q.2.1 24))) := ⟨_, rfl⟩
                      rw [← hv9, ← ha9]
                      have hTx9 : TxR q.2 sd a9 := hTx.eq (fun k hk => by rw [ha9]; exact (if_neg (by rintro rfl; revert hk; decide)).trans (if_neg (by rintro rfl; revert hk; decide)))
                      have hbg : bgR a9 sd (q.2.1 24) = bgR a3 sd (q.2.1 24) := by rw [ha9]; rfl
                      rw [show mW v9 a9 b3 = mW v9 (va_up a9 73 (zRow (a9 73) 0 0)) b3 by rw [zRow_0, va_up_id]]
                      refine px_for 3 (fun i => XG mX9_read _ 0 0 282 [some (.ref 0), some (.int (nI i))] [] (mW v9 (va_up a9 73 (zRow (a9 73) 0 i)) b3)) ?_ ?_ 0 (Nat.zero_le _)
                      · skip
                        refine XG.blk tX9_read_ok 149 2 (pc' := 284) (pl' := [some (.ref 0), some (.int (nI 3))]) (st' := [(.int (nI 3)), (.int (nI 3))]) (W1 := (mW v9 (va_up a9 73 (zRow (a9 73) 0 3)) b3)) (bs := []) rfl rfl rfl ?_
                        refine XG.br eX9_read_284 (P := (nI 3) ≤ (nI 3)) (r := []) rfl (tgt := 300) (by decide) (fun h284 => ?_) (fun h284 => ?_)
                        · skip
                          have g284 : 3 ≤ 3 := (nI_leI (a := 3) (b := 3) (by omega) (by omega)).mp h284
                          refine XG.blk tX9_read_ok 159 1 (pc' := 301) (pl' := [some (.ref 0), some (.int (nI 3))]) (st' := [(.int (nI 0))]) (W1 := (mW v9 (va_up a9 73 (zRow (a9 73) 0 3)) b3)) (bs := []) rfl rfl rfl ?_
                          refine XS.iret eX9_read_301 rfl rfl ?_
                          refine ⟨_, _, _, rfl, ?_, hfb3, Or.inr ⟨q.2, hrd, rfl, ?_, ?_, ?_, ?_, hTx9.eq (fun k hk => if_neg (by rintro rfl; revert hk; decide)), ?_, fun j hj => if_pos (by omega)⟩⟩
                          · rw [hv9]; exact gi2
                          · rw [hv9]; rfl
                          · rw [hv9]; rfl
                          · rw [hv9]; rfl
                          · rw [hv9]; rfl
                          · show a9 54 = bgR a9 sd (q.2.1 24)
                            rw [hbg, ha9]; rfl
                        · exfalso
                          have g284 : ¬ 3 ≤ 3 := (fun z => h284 ((nI_leI (a := 3) (b := 3) (by omega) (by omega)).mpr z))
                          omega
                      · intro i hi ihi
                        refine XG.blk tX9_read_ok 149 2 (pc' := 284) (pl' := [some (.ref 0), some (.int (nI i))]) (st' := [(.int (nI 3)), (.int (nI i))]) (W1 := (mW v9 (va_up a9 73 (zRow (a9 73) 0 i)) b3)) (bs := []) rfl rfl rfl ?_
                        refine XG.br eX9_read_284 (P := (nI 3) ≤ (nI i)) (r := []) rfl (tgt := 300) (by decide) (fun h284 => ?_) (fun h284 => ?_)
                        · exfalso
                          have g284 : 3 ≤ i := (nI_leI (a := 3) (b := i) (by omega) (by omega)).mp h284
                          omega
                        · skip
                          have g284 : ¬ 3 ≤ i := (fun z => h284 ((nI_leI (a := 3) (b := i) (by omega) (by omega)).mpr z))
                          have q12 : (nI i).toNatClampNeg = i := nI_clamp (by omega)
                          have q13 : (vp_nar .boolean (nI 0)) = (nI 0) := by decide
                          have q14 : ((nI i) + (nI 1)) = (nI (i + 1)) := px_eadd rfl rfl
                          refine XG.blk tX9_read_ok 152 6 (pc' := 297) (pl' := [some (.ref 0), some (.int ((nI i) + (nI 1)))]) (st' := []) (W1 := (mW v9 (va_up a9 73 (upd (zRow (a9 73) 0 i) (nI i).toNatClampNeg (vp_nar .boolean (nI 0)))) b3)) (bs := [px_vb (nI i) 3]) rfl rfl (by (try simp only [q12, q13, q14]); exact (px_all (px_vbN (by omega) (by decide)) rfl)) ?_
                          simp only [q12, q13, q14]
                          refine XG.goto eX9_read_297 (tgt := 282) (by decide) ?_
                          have ez := zRow_s (a9 73) 0 i
                          rw [Nat.zero_add] at ez
                          rw [ez]; exact ihi
                    · exfalso
                      first | exact hx15 h246 | exact h246 hx15
                  · exfalso
                    first | exact hx14 h234 | exact h234 gi14
                · exfalso
                  first | exact hx15 h216 | exact h216 hx15
              · exfalso
                first | exact hx14 h202 | exact h202 gi14
          · exfalso
            have g146 : ¬ (q.2.1 24) ≤ (q.2.1 24) := (fun z => h146 ((nI_leI (a := (q.2.1 24)) (b := (q.2.1 24)) (by omega) (by omega)).mpr z))
            omega
        · intro i hi ihi vi hci hwi
          have gi19 : vi 19 = nI sd := (hci 19 (by decide)).trans g193
          have gi11 : vi 11 = nI q.1.1 := (hci 11 (by decide)).trans g11
          have gi13 : vi 13 = nI 0 := (hci 13 (by decide)).trans hx13
          have hD28 := hD.2.2.1 i hi 28 (by decide)
          have hb28 := hb4.2 i hi
          have q15 : (vi 19) = (nI sd) := gi19
          have q16 : (nI sd).toNatClampNeg = sd := nI_clamp (by omega)
          have q17 : ((a3 24) sd) = (nI (q.2.1 24)) := h24
          refine XG.blk tX9_read_ok 74 6 (pc' := 146) (pl' := [some (.ref 0), some (.int (nI i))]) (st' := [(.int ((a3 24) (vi 19).toNatClampNeg)), (.int (nI i))]) (W1 := (mW vi a3 b3)) (bs := [px_vb (vi 19) 2]) rfl rfl (by (try simp only [q15, q16, q17]); exact (px_all (px_vbN (by omega) (by decide)) rfl)) ?_
          simp only [q15, q16, q17]
          refine XG.br eX9_read_146 (P := (nI (q.2.1 24)) ≤ (nI i)) (r := []) rfl (tgt := 197) (by decide) (fun h146 => ?_) (fun h146 => ?_)
          · exfalso
            have g146 : (q.2.1 24) ≤ i := (nI_leI (a := (q.2.1 24)) (b := i) (by omega) (by omega)).mp h146
            omega
          · skip
            have g146 : ¬ (q.2.1 24) ≤ i := (fun z => h146 ((nI_leI (a := (q.2.1 24)) (b := i) (by omega) (by omega)).mpr z))
            refine XG.blk tX9_read_ok 81 2 (pc' := 153) (pl' := [some (.ref 0), some (.int (nI i))]) (st' := [(.int (vi 13))]) (W1 := (mW vi a3 b3)) (bs := []) rfl rfl rfl ?_
            refine XG.br eX9_read_153 (P := ¬ (vi 13) = 0) (r := []) rfl (tgt := 197) (by decide) (fun h153 => ?_) (fun h153 => ?_)
            · exfalso
              first | exact hx13 h153 | exact h153 gi13
            · skip
              have h153 := Decidable.not_not.mp h153
              have q18 : (vi 19) = (nI sd) := gi19
              have q19 : ((nI 6) * (nI sd)) = (nI (6 * sd)) := px_emul rfl rfl
              have q20 : ((nI (6 * sd)) + (nI i)) = (nI ((6 * sd) + i)) := px_eadd rfl rfl
              have q21 : (nI ((6 * sd) + i)).toNatClampNeg = ((6 * sd) + i) := nI_clamp (by omega)
              have q22 : ((a3 28) ((6 * sd) + i)) = (nI (q.2.2.1 28 i)) := hD28
              have q23 : (nI sd).toNatClampNeg = sd := nI_clamp (by omega)
              have q24 : ((a3 23) sd) = (nI (q.2.1 23)) := h23
              refine XG.blk tX9_read_ok 84 14 (pc' := 179) (pl' := [some (.ref 0), some (.int (nI i))]) (st' := [(.int ((a3 23) (vi 19).toNatClampNeg)), (.int ((a3 28) (((nI 6) * (vi 19)) + (nI i)).toNatClampNeg))]) (W1 := (mW vi a3 b3)) (bs := [px_vb (((nI 6) * (vi 19)) + (nI i)) 12, px_vb (vi 19) 2]) rfl rfl (by (try simp only [q18, q19, q20, q21, q22, q23, q24]); exact (px_all (px_vbN (by omega) (by decide)) (px_all (px_vbN (by omega) (by decide)) rfl))) ?_
              simp only [q18, q19, q20, q21, q22, q23, q24]
              refine XG.br eX9_read_179 (P := (nI (q.2.2.1 28 i)) < (nI (q.2.1 23))) (r := []) rfl (tgt := 191) (by decide) (fun h179 => ?_) (fun h179 => ?_)
              · skip
                have g179 : (q.2.2.1 28 i) < (q.2.1 23) := (nI_ltI (a := (q.2.2.1 28 i)) (b := (q.2.1 23)) (by omega) (by omega)).mp h179
                have q25 : ((nI i) + (nI 1)) = (nI (i + 1)) := px_eadd rfl rfl
                refine XG.blk tX9_read_ok 104 1 (pc' := 194) (pl' := [some (.ref 0), some (.int ((nI i) + (nI 1)))]) (st' := []) (W1 := (mW vi a3 b3)) (bs := []) rfl rfl rfl ?_
                simp only [q25]
                refine XG.goto eX9_read_194 (tgt := 136) (by decide) ?_
                refine ihi vi hci ?_
                rw [oW_s, if_neg (by omega)]; exact hwi
              · skip
                have g179 : ¬ (q.2.2.1 28 i) < (q.2.1 23) := (fun z => h179 ((nI_ltI (a := (q.2.2.1 28 i)) (b := (q.2.1 23)) (by omega) (by omega)).mpr z))
                have q26 : (vi 11) = (nI q.1.1) := gi11
                refine XG.blk tX9_read_ok 99 4 (pc' := 188) (pl' := [some (.ref 0), some (.int (nI i))]) (st' := [(.int (vi 11)), (.int (nI 5)), (.ref 0)]) (W1 := (mW vi a3 b3)) (bs := []) rfl rfl rfl ?_
                simp only [q26]
                refine XG.callV0 eX9_read_188 kl_X9_263 (con_wrong (d - 1) vi a3 b3 q.1.1 (by omega) (nI 5)) (px_fitS (by omega)) rfl rfl rfl (Nat.le_of_ble_eq_true rfl) (fun r9 W9 hp9 hl9 => ?_)
                obtain ⟨rfl, rfl⟩ := hp9
                have q27 : ((nI i) + (nI 1)) = (nI (i + 1)) := px_eadd rfl rfl
                refine XG.blk tX9_read_ok 104 1 (pc' := 194) (pl' := [some (.ref 0), some (.int ((nI i) + (nI 1)))]) (st' := []) (W1 := (mW (wrgV vi (a3 6 q.1.1) (nI 5)) a3 b3)) (bs := []) rfl rfl rfl ?_
                simp only [q27]
                refine XG.goto eX9_read_194 (tgt := 136) (by decide) ?_
                rw [hK3.2.1]
                refine ihi _ (hci.tr wrgV_chg) ?_
                rw [oW_s, if_pos (by omega)]
                exact hwi.wr gi13 hpl (oW_le (fun x hx => PVr.w (t := q.1.1) (w := q.1.2) hP x hx))
    · exfalso
      have g15 : ¬ n ≤ n := (fun z => h15 ((nI_leI (a := n) (b := n) (by omega) (by omega)).mpr z))
      omega
  · intro i hi ihi
    refine XG.blk tX9_read_ok 6 3 (pc' := 15) (pl' := [some (.ref 0), some (.int (nI i))]) (st' := [(.int (nI n)), (.int (nI i))]) (W1 := (mW (va_up v 4 (nI n)) (va_up a 3 (cpB (a 1) (a 3) i)) b)) (bs := []) rfl rfl rfl ?_
    refine XG.br eX9_read_15 (P := (nI n) ≤ (nI i)) (r := []) rfl (tgt := 36) (by decide) (fun h15 => ?_) (fun h15 => ?_)
    · exfalso
      have g15 : n ≤ i := (nI_leI (a := n) (b := i) (by omega) (by omega)).mp h15
      omega
    · skip
      have g15 : ¬ n ≤ i := (fun z => h15 ((nI_leI (a := n) (b := i) (by omega) (by omega)).mpr z))
      have q28 : (nI i).toNatClampNeg = i := nI_clamp (by omega)
      have q29 : ((nI i) + (nI 1)) = (nI (i + 1)) := px_eadd rfl rfl
      refine XG.blk tX9_read_ok 10 9 (pc' := 33) (pl' := [some (.ref 0), some (.int ((nI i) + (nI 1)))]) (st' := []) (W1 := (mW (va_up v 4 (nI n)) (va_up a 3 (upd (cpB (a 1) (a 3) i) (nI i).toNatClampNeg (vp_nar .byte ((a 1) (nI i).toNatClampNeg)))) b)) (bs := [px_vb (nI i) 2000, px_vb (nI i) 2000]) rfl rfl (by (try simp only [q28, q29]); exact (px_all (px_vbN (by omega) (by decide)) (px_all (px_vbN (by omega) (by decide)) rfl))) ?_
      simp only [q28, q29]
      refine XG.goto eX9_read_33 (tgt := 10) (by decide) ?_
      rw [cpB_s]; exact ihi
