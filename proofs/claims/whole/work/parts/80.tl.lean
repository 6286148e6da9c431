/-! the reference: one tell -/
theorem RD.v {S : SD} {sd t t' : Nat} {v v' : Nat → Int32} {a : Nat → Nat → Int32} {b : Nat → Nat → Int64} (h : RD S sd t v a b) (ht : t ≤ t') (hv : chg [11, 13, 14, 15, 16] v v') : RD S sd t' v' a b := by
  obtain ⟨h1, h2, h3, h4, h5, h6, h7, h8⟩ := h
  exact ⟨h1, h2, h3, h4, ⟨⟨(hv 20 (by decide)).trans h5.1.1, h5.1.2⟩, h5.2⟩, h6, CdR_chg ht ⟨hv 40 (by decide), hv 46 (by decide)⟩ (fun _ _ => rfl) h7, (hv 12 (by decide)).trans h8⟩
theorem RD.num {S : SD} {sd t t' k : Nat} {v v' : Nat → Int32} {a : Nat → Nat → Int32} {b : Nat → Nat → Int64} {x : Int32} {y : Nat} (h : RD S sd t v a b) (ht : t ≤ t') (hv : chg [11, 13, 14, 15, 16] v v') (hk : k ∈ [23, 35, 36, 37]) (hx : x = nI y) : RD (va_up S.1 k y, S.2) sd t' v' (va_up a k (upd (a k) sd x)) b := by
  obtain ⟨h1, h2, h3, h4, h5, h6, h7, h8⟩ := h.v ht hv
  have e : ∀ j, j ≠ k → va_up a k (upd (a k) sd x) j = a j := fun j hj => if_neg hj
  have eN : ∀ j, j ≠ k → va_up S.1 k y j = S.1 j := fun j hj => if_neg hj
  have hk' : k ≠ 24 ∧ k ≠ 30 ∧ k ≠ 31 := by revert hk; simp only [List.mem_cons, List.not_mem_nil, or_false]; omega
  refine ⟨fun j hj => ?_, ?_, ?_, ?_, ⟨⟨h5.1.1, h5.1.2.1, fun i z hi => ?_⟩, ?_, ?_⟩, ?_, ?_, h8⟩
  · by_cases ej : j = k
    · subst ej
      show va_up a j (upd (a j) sd x) j sd = nI (va_up S.1 j y j)
      rw [show va_up a j (upd (a j) sd x) j = upd (a j) sd x from if_pos rfl, show va_up S.1 j y j = y from if_pos rfl, pk_us, hx]
    · show va_up a k _ j sd = nI (va_up S.1 k y j)
      rw [e j ej, eN j ej]; exact h1 j hj
  · show va_up S.1 k y 24 ≤ 6 ∧ va_up S.1 k y 31 ≤ 5 ∧ va_up S.1 k y 30 ≤ 6
    rw [eN 24 (Ne.symm hk'.1), eN 31 (Ne.symm hk'.2.2), eN 30 (Ne.symm hk'.2.1)]; exact h2
  · intro i hi j hj
    have hi : i < va_up S.1 k y 24 := hi
    rw [eN 24 (Ne.symm hk'.1)] at hi
    rw [e j (by revert hk hj; simp only [List.mem_cons, List.not_mem_nil, or_false]; omega)]; exact h3 i hi j hj
  · intro i hi j hj
    have hi : i < va_up S.1 k y 31 := hi
    rw [eN 31 (Ne.symm hk'.2.2)] at hi
    rw [e j (by revert hk hj; simp only [List.mem_cons, List.not_mem_nil, or_false]; omega)]; exact h4 i hi j hj
  · rw [e 22 (by revert hk; simp only [List.mem_cons, List.not_mem_nil, or_false]; omega)]; exact h5.1.2.2 i z hi
  · show S.2.2.1.length = va_up S.1 k y 24 + va_up S.1 k y 31
    rw [eN 24 (Ne.symm hk'.1), eN 31 (Ne.symm hk'.2.2)]; exact h5.2.1
  · intro z hz j hj
    show j < va_up S.1 k y 24
    rw [eN 24 (Ne.symm hk'.1)]; exact h5.2.2 z hz j hj
  · show PrR S.2.2.2.1 (va_up a k _ 29) sd
    rw [e 29 (by revert hk; simp only [List.mem_cons, List.not_mem_nil, or_false]; omega)]; exact h6
  · exact CdR_chg (Nat.le_refl _) ⟨rfl, rfl⟩ (fun j hj => e j (by revert hk hj; simp only [List.mem_cons, List.not_mem_nil, or_false]; omega)) h7
theorem nI_of_toInt {n m : Nat} (hn : n < 2 ^ 31) (h : (nI n).toInt = (m : Int)) : n = m := by rw [nI_toInt hn] at h; omega
theorem sub_neg {x y : Nat} (h : x < y) (hy : y < 1000) : nI x - nI y < 0 := by
  rw [Int32.lt_iff_toInt_lt, pk_sub_toInt (by omega) (by omega), show (0 : Int32).toInt = 0 from rfl]; omega
set_option maxHeartbeats 400000 in
theorem con_tellOne (d : Nat) (v : Nat → Int32) (a : Nat → Nat → Int32) (b : Nat → Nat → Int64) (K : TKS) (hT : Tok K a b) (sd : Nat) (hsd : v 19 = nI sd) (hsd2 : sd < 2) (S : SD) (s : PT) (h : PVr K (.inr s) v) (hk0 : K.1 s.1 ≠ 0) (hR : RD S sd s.1 v a b) (hd : 7 ≤ d) : Con mX9_tellOne d [.ref 0] (mW v a b) (fun q W' => ∃ v' a' b', W' = mW v' a' b' ∧ FrR sd v v' a a' b b' ∧ RQ K sd (tellS K (s, S)) v' a' b' ∧ q = none) := by
  have ht := h.1
  have h11 := h.2.1
  have hK := hT s.1 h.1 h.2.2.2.1
  have hk100 := hK.2.2.2.2.1
  have hx14 : v 13 ≤ 0 := by rw [h.2.2.1]; decide
  have hB := hR.2.1
  refine Con.of (by decide) (Nat.le_of_ble_eq_true rfl) ?_
  have q1 : (v 11) = (nI s.1) := h11
  have q2 : (nI s.1).toNatClampNeg = s.1 := nI_clamp (by omega)
  have q3 : ((a 5) s.1) = (nI (K.1 s.1)) := hK.1
  refine XG.blk tX9_tellOne_ok 0 5 (pc' := 9) (pl' := [some (.ref 0), none]) (st' := [(.int ((a 5) (v 11).toNatClampNeg))]) (W1 := (mW v a b)) (bs := [px_vb (v 11) 403]) rfl rfl (by (try simp only [q1, q2, q3]); exact (px_all (px_vbN (by omega) (by decide)) rfl)) ?_
  simp only [q1, q2, q3]
  refine XG.tsw eX9_tellOne_9 (td := 226) (by decide) (tg := [64, 82, 111, 140, 226, 226, 226, 168, 187, 206]) (by decide) (by decide) (fun h9 => ?_) (fun j9 t9 hj9 h9 => ?_)
  · skip
    rw [nI_toInt (by omega)] at h9
    have e9 : tellS K (s, S) = .inl (1, s.1) := by unfold tellS; rw [if_neg (show ¬ K.1 s.1 = 20 by omega), if_neg (show ¬ K.1 s.1 = 21 by omega), if_neg (show ¬ K.1 s.1 = 22 by omega), if_neg (show ¬ K.1 s.1 = 23 by omega), if_neg (show ¬ K.1 s.1 = 27 by omega), if_neg (show ¬ K.1 s.1 = 28 by omega), if_neg (show ¬ K.1 s.1 = 29 by omega), if_neg (show ¬ (24 ≤ K.1 s.1 ∧ K.1 s.1 ≤ 26) by omega)]
    rcases h9 with h9 | h9
    · skip
      have q4 : (v 11) = (nI s.1) := h11
      have q5 : (nI s.1).toNatClampNeg = s.1 := nI_clamp (by omega)
      have q6 : ((a 5) s.1) = (nI (K.1 s.1)) := hK.1
      refine XG.blk tX9_tellOne_ok 88 9 (pc' := 240) (pl' := [some (.ref 0), some (.int (((a 5) (v 11).toNatClampNeg) - (nI 24)))]) (st' := [(.int (((a 5) (v 11).toNatClampNeg) - (nI 24)))]) (W1 := (mW v a b)) (bs := [px_vb (v 11) 403]) rfl rfl (by (try simp only [q4, q5, q6]); exact (px_all (px_vbN (by omega) (by decide)) rfl)) ?_
      simp only [q4, q5, q6]
      refine XG.br eX9_tellOne_240 (P := ((nI (K.1 s.1)) - (nI 24)) < 0) (r := []) rfl (tgt := 257) (by decide) (fun h240 => ?_) (fun h240 => ?_)
      · skip
        refine XG.blk tX9_tellOne_ok 105 2 (pc' := 259) (pl' := [some (.ref 0), some (.int ((nI (K.1 s.1)) - (nI 24)))]) (st' := [(.int (nI 1)), (.ref 0)]) (W1 := (mW v a b)) (bs := []) rfl rfl rfl ?_
        refine XG.callV0 eX9_tellOne_259 kl_X9_230 (con_failS (d - 1) v a b K hT s h 1 (Or.inl rfl)) (px_fitS (by omega)) rfl rfl rfl (Nat.le_of_ble_eq_true rfl) (fun r9 W9 hp9 hl9 => ?_)
        obtain ⟨v1, rfl, hc1, hP1, rfl⟩ := hp9
        have hx15 : ¬ v1 13 ≤ 0 := by rw [hP1.2.1]; exact Int32.not_le.mpr (n1_pos (k := 1) (by decide) (by decide))
        refine XG.blk tX9_tellOne_ok 108 2 (pc' := 266) (pl' := [some (.ref 0), some (.int ((nI (K.1 s.1)) - (nI 24)))]) (st' := [(.int (v1 13))]) (W1 := (mW v1 a b)) (bs := []) rfl rfl rfl ?_
        refine XG.br eX9_tellOne_266 (P := (v1 13) ≤ 0) (r := []) rfl (tgt := 270) (by decide) (fun h266 => ?_) (fun h266 => ?_)
        · exfalso
          first | exact hx15 h266 | exact h266 hx14
        · skip
          refine XS.vret eX9_tellOne_269 rfl ?_
          rw [e9]
          exact ⟨v1, a, b, rfl, FrR.v hc1 (by decide), hP1, rfl⟩
      · exfalso
        exact h240 (sub_neg (by omega) (by decide))
    · skip
      have q7 : (v 11) = (nI s.1) := h11
      have q8 : (nI s.1).toNatClampNeg = s.1 := nI_clamp (by omega)
      have q9 : ((a 5) s.1) = (nI (K.1 s.1)) := hK.1
      have q10 : ((nI (K.1 s.1)) - (nI 24)) = (nI ((K.1 s.1) - 24)) := px_esub rfl rfl (by omega)
      refine XG.blk tX9_tellOne_ok 88 9 (pc' := 240) (pl' := [some (.ref 0), some (.int (((a 5) (v 11).toNatClampNeg) - (nI 24)))]) (st' := [(.int (((a 5) (v 11).toNatClampNeg) - (nI 24)))]) (W1 := (mW v a b)) (bs := [px_vb (v 11) 403]) rfl rfl (by (try simp only [q7, q8, q9, q10]); exact (px_all (px_vbN (by omega) (by decide)) rfl)) ?_
      simp only [q7, q8, q9, q10]
      refine XG.br eX9_tellOne_240 (P := (nI ((K.1 s.1) - 24)) < 0) (r := []) rfl (tgt := 257) (by decide) (fun h240 => ?_) (fun h240 => ?_)
      · exfalso
        have g240 : ((K.1 s.1) - 24) < 0 := (nI_ltI (a := ((K.1 s.1) - 24)) (b := 0) (by omega) (by omega)).mp h240
        omega
      · skip
        have g240 : ¬ ((K.1 s.1) - 24) < 0 := (fun z => h240 ((nI_ltI (a := ((K.1 s.1) - 24)) (b := 0) (by omega) (by omega)).mpr z))
        have q11 : (v 11) = (nI s.1) := h11
        have q12 : (nI s.1).toNatClampNeg = s.1 := nI_clamp (by omega)
        have q13 : ((a 5) s.1) = (nI (K.1 s.1)) := hK.1
        refine XG.blk tX9_tellOne_ok 98 6 (pc' := 254) (pl' := [some (.ref 0), some (.int (nI ((K.1 s.1) - 24)))]) (st' := [(.int (nI 26)), (.int ((a 5) (v 11).toNatClampNeg))]) (W1 := (mW v a b)) (bs := [px_vb (v 11) 403]) rfl rfl (by (try simp only [q11, q12, q13]); exact (px_all (px_vbN (by omega) (by decide)) rfl)) ?_
        simp only [q11, q12, q13]
        refine XG.br eX9_tellOne_254 (P := (nI (K.1 s.1)) ≤ (nI 26)) (r := []) rfl (tgt := 262) (by decide) (fun h254 => ?_) (fun h254 => ?_)
        · exfalso
          have g254 : (K.1 s.1) ≤ 26 := (nI_leI (a := (K.1 s.1)) (b := 26) (by omega) (by omega)).mp h254
          omega
        · skip
          have g254 : ¬ (K.1 s.1) ≤ 26 := (fun z => h254 ((nI_leI (a := (K.1 s.1)) (b := 26) (by omega) (by omega)).mpr z))
          refine XG.blk tX9_tellOne_ok 105 2 (pc' := 259) (pl' := [some (.ref 0), some (.int (nI ((K.1 s.1) - 24)))]) (st' := [(.int (nI 1)), (.ref 0)]) (W1 := (mW v a b)) (bs := []) rfl rfl rfl ?_
          refine XG.callV0 eX9_tellOne_259 kl_X9_230 (con_failS (d - 1) v a b K hT s h 1 (Or.inl rfl)) (px_fitS (by omega)) rfl rfl rfl (Nat.le_of_ble_eq_true rfl) (fun r9 W9 hp9 hl9 => ?_)
          obtain ⟨v1, rfl, hc1, hP1, rfl⟩ := hp9
          have hx15 : ¬ v1 13 ≤ 0 := by rw [hP1.2.1]; exact Int32.not_le.mpr (n1_pos (k := 1) (by decide) (by decide))
          refine XG.blk tX9_tellOne_ok 108 2 (pc' := 266) (pl' := [some (.ref 0), some (.int (nI ((K.1 s.1) - 24)))]) (st' := [(.int (v1 13))]) (W1 := (mW v1 a b)) (bs := []) rfl rfl rfl ?_
          refine XG.br eX9_tellOne_266 (P := (v1 13) ≤ 0) (r := []) rfl (tgt := 270) (by decide) (fun h266 => ?_) (fun h266 => ?_)
          · exfalso
            first | exact hx15 h266 | exact h266 hx14
          · skip
            refine XS.vret eX9_tellOne_269 rfl ?_
            rw [e9]
            exact ⟨v1, a, b, rfl, FrR.v hc1 (by decide), hP1, rfl⟩
  · have hl9 : j9 < 10 := (List.getElem?_eq_some_iff.mp hj9).1
    rcases (show j9 = 0 ∨ j9 = 1 ∨ j9 = 2 ∨ j9 = 3 ∨ j9 = 4 ∨ j9 = 5 ∨ j9 = 6 ∨ j9 = 7 ∨ j9 = 8 ∨ j9 = 9 by omega) with rfl | rfl | rfl | rfl | rfl | rfl | rfl | rfl | rfl | rfl
    · cases hj9
      have hkk : K.1 s.1 = 20 := nI_of_toInt (by omega) (by rw [h9]; rfl)
      have q14 : (v 19) = (nI sd) := hsd
      refine XG.blk tX9_tellOne_ok 6 7 (pc' := 75) (pl' := [some (.ref 0), none]) (st' := [(.int (nI 5)), (.int (nI 1)), (.ref 0), (.int (v 19)), (.ref 10)]) (W1 := (mW v a b)) (bs := []) rfl rfl rfl ?_
      simp only [q14]
      refine XG.callV0 eX9_tellOne_75 kl_X9_280 (con_toldInt (d - 1) v a b K hT s h hk0 1 5 (by omega) (by omega) (by omega)) (px_fitS (by omega)) rfl rfl rfl (Nat.le_of_ble_eq_true rfl) (fun r9 W9 hp9 hl9 => ?_)
      obtain ⟨v1, x1, rfl, hc1, hP1, rfl, hx1⟩ := hp9
      have q15 : (nI sd).toNatClampNeg = sd := nI_clamp (by omega)
      refine XG.blk tX9_tellOne_ok 14 1 (pc' := 79) (pl' := [some (.ref 0), none]) (st' := []) (W1 := (mW v1 (va_up a 23 (upd (a 23) (nI sd).toNatClampNeg x1)) b)) (bs := [px_vb (nI sd) 2]) rfl rfl (by (try simp only [q15]); exact (px_all (px_vbN (by omega) (by decide)) rfl)) ?_
      simp only [q15]
      refine XG.goto eX9_tellOne_79 (tgt := 279) (by decide) ?_
      refine XS.vret eX9_tellOne_279 rfl ?_
      have e9 : tellS K (s, S) = tNum K 23 1 5 (s, S) := by unfold tellS; rw [if_pos (show K.1 s.1 = 20 from hkk)]
      rw [e9]
      refine ⟨_, _, b, rfl, ⟨hc1.mono (by decide), (FrR.set (v := v) (b := b) 23 sd x1 (by rw [show strd 23 = 1 from by decide]; omega) (by rw [show strd 23 = 1 from by decide]; omega)).2.1, chg.rf⟩, ?_, rfl⟩
      show RQ K sd (bd (bd (bd (advS s) (bndS K 1 5)) (mstS K 4)) _) _ _ _
      cases hr : bd (bd (advS s) (bndS K 1 5)) (mstS K 4) with
      | inl e => rw [hr] at hP1; exact hP1
      | inr s3 =>
        rw [hr] at hP1
        obtain ⟨s2, e2, m3⟩ := bd_inrE hr
        obtain ⟨s1, e1, m2⟩ := bd_inrE e2
        obtain ⟨-, hs1⟩ := advS_inr e1
        have p2 := (bndS_inr m2).2.2
        obtain ⟨-, -, p3⟩ := mstS_inr m3
        have hs2 : s1.1 = s.1 + 1 := by rw [hs1]
        refine ⟨hP1, hR.num (by rw [p3]; show s.1 ≤ s2.1 + 1; omega) hc1 (by decide) ?_⟩
        rw [hx1 s1 s2 e1 m2, hs2]
    · cases hj9
      have hkk : K.1 s.1 = 21 := nI_of_toInt (by omega) (by rw [h9]; rfl)
      have q16 : (v 19) = (nI sd) := hsd
      have q17 : (nI sd).toNatClampNeg = sd := nI_clamp (by omega)
      have q18 : ((a 24) sd) = (nI (S.1 24)) := (hR.1 24 (by decide))
      refine XG.blk tX9_tellOne_ok 16 7 (pc' := 94) (pl' := [some (.ref 0), none]) (st' := [(.int (nI 6)), (.int ((a 24) (v 19).toNatClampNeg)), (.ref 0)]) (W1 := (mW v a b)) (bs := [px_vb (v 19) 2]) rfl rfl (by (try simp only [q16, q17, q18]); exact (px_all (px_vbN (by omega) (by decide)) rfl)) ?_
      simp only [q16, q17, q18]
      refine XG.callV0 eX9_tellOne_94 kl_X9_283 (con_roomFor (d - 1) v a b K hT s h hk0 (S.1 24) 6 (by omega) (by omega) (by omega)) (px_fitS (by omega)) rfl rfl rfl (Nat.le_of_ble_eq_true rfl) (fun r9 W9 hp9 hl9 => ?_)
      obtain ⟨v1, rfl, hc1, hP1, rfl⟩ := hp9
      have e9 : tellS K (s, S) = tSlp K (s, S) := by unfold tellS; rw [if_neg (show ¬ K.1 s.1 = 20 by omega), if_pos (show K.1 s.1 = 21 from hkk)]
      by_cases hfull : S.1 24 = 6
      · have e8 : tSlp K (s, S) = .inl (2, s.1) := if_pos hfull
        rw [if_pos hfull] at hP1
        have hx16 : ¬ v1 13 = 0 := by rw [hP1.2.1]; exact nI_nz (k := 2) (by decide) (by decide)
        refine XG.blk tX9_tellOne_ok 24 2 (pc' := 101) (pl' := [some (.ref 0), none]) (st' := [(.int (v1 13))]) (W1 := (mW v1 a b)) (bs := []) rfl rfl rfl ?_
        refine XG.br eX9_tellOne_101 (P := ¬ (v1 13) = 0) (r := []) rfl (tgt := 279) (by decide) (fun h101 => ?_) (fun h101 => ?_)
        · skip
          refine XS.vret eX9_tellOne_279 rfl ?_
          rw [e9, e8]
          exact ⟨v1, a, b, rfl, FrR.v hc1 (by decide), hP1, rfl⟩
        · exfalso
          have h101 := Decidable.not_not.mp h101
          first | exact hx16 h101 | exact h101 hx16
      · have e8 : tSlp K (s, S) = bd (advS s) (fun s1 => slT K s1 S) := if_neg hfull
        rw [if_neg hfull] at hP1
        cases hs : advS s with
        | inl e =>
          rw [hs] at hP1 e8
          have hx16 : ¬ v1 13 = 0 := by rw [hP1.2.1]; exact nI_nz (by have := hP1.1; omega) (by have := hP1.1; omega)
          refine XG.blk tX9_tellOne_ok 24 2 (pc' := 101) (pl' := [some (.ref 0), none]) (st' := [(.int (v1 13))]) (W1 := (mW v1 a b)) (bs := []) rfl rfl rfl ?_
          refine XG.br eX9_tellOne_101 (P := ¬ (v1 13) = 0) (r := []) rfl (tgt := 279) (by decide) (fun h101 => ?_) (fun h101 => ?_)
          · skip
            refine XS.vret eX9_tellOne_279 rfl ?_
            rw [e9, e8]
            exact ⟨v1, a, b, rfl, FrR.v hc1 (by decide), hP1, rfl⟩
          · exfalso
            have h101 := Decidable.not_not.mp h101
            first | exact hx16 h101 | exact h101 hx16
        | inr s1 =>
          rw [hs] at hP1 e8
          have hx16 : v1 13 = 0 := hP1.2.2.1
          obtain ⟨-, hs1⟩ := advS_inr hs
          have hs2 : s1.1 = s.1 + 1 := by rw [hs1]
          refine XG.blk tX9_tellOne_ok 24 2 (pc' := 101) (pl' := [some (.ref 0), none]) (st' := [(.int (v1 13))]) (W1 := (mW v1 a b)) (bs := []) rfl rfl rfl ?_
          refine XG.br eX9_tellOne_101 (P := ¬ (v1 13) = 0) (r := []) rfl (tgt := 279) (by decide) (fun h101 => ?_) (fun h101 => ?_)
          · exfalso
            first | exact hx16 h101 | exact h101 hx16
          · skip
            have h101 := Decidable.not_not.mp h101
            refine XG.blk tX9_tellOne_ok 27 1 (pc' := 105) (pl' := [some (.ref 0), none]) (st' := [(.ref 0)]) (W1 := (mW v1 a b)) (bs := []) rfl rfl rfl ?_
            refine XG.callV0 eX9_tellOne_105 kl_X9_286 (con_tellSleeper (d - 1) v1 a b K hT sd ((hc1 19 (by decide)).trans hsd) hsd2 S s1 hP1 (hR.v (by omega) (hc1.mono (by decide))) (by omega) (by omega)) (px_fitS (by omega)) rfl rfl rfl (Nat.le_of_ble_eq_true rfl) (fun r9 W9 hp9 hl9 => ?_)
            obtain ⟨v2, a2, b2, rfl, hF2, hQ2, rfl⟩ := hp9
            refine XG.goto eX9_tellOne_108 (tgt := 279) (by decide) ?_
            refine XS.vret eX9_tellOne_279 rfl ?_
            rw [e9, e8]
            exact ⟨v2, a2, b2, rfl, (FrR.v hc1 (by decide)).tr hF2, hQ2, rfl⟩
    · cases hj9
      have hkk : K.1 s.1 = 22 := nI_of_toInt (by omega) (by rw [h9]; rfl)
      have q19 : (v 19) = (nI sd) := hsd
      have q20 : (nI sd).toNatClampNeg = sd := nI_clamp (by omega)
      have q21 : ((a 30) sd) = (nI (S.1 30)) := (hR.1 30 (by decide))
      refine XG.blk tX9_tellOne_ok 30 7 (pc' := 123) (pl' := [some (.ref 0), none]) (st' := [(.int (nI 6)), (.int ((a 30) (v 19).toNatClampNeg)), (.ref 0)]) (W1 := (mW v a b)) (bs := [px_vb (v 19) 2]) rfl rfl (by (try simp only [q19, q20, q21]); exact (px_all (px_vbN (by omega) (by decide)) rfl)) ?_
      simp only [q19, q20, q21]
      refine XG.callV0 eX9_tellOne_123 kl_X9_283 (con_roomFor (d - 1) v a b K hT s h hk0 (S.1 30) 6 (by omega) (by omega) (by omega)) (px_fitS (by omega)) rfl rfl rfl (Nat.le_of_ble_eq_true rfl) (fun r9 W9 hp9 hl9 => ?_)
      obtain ⟨v1, rfl, hc1, hP1, rfl⟩ := hp9
      have e9 : tellS K (s, S) = tPr K (s, S) := by unfold tellS; rw [if_neg (show ¬ K.1 s.1 = 20 by omega), if_neg (show ¬ K.1 s.1 = 21 by omega), if_pos (show K.1 s.1 = 22 from hkk)]
      by_cases hfull : S.1 30 = 6
      · have e8 : tPr K (s, S) = .inl (2, s.1) := if_pos hfull
        rw [if_pos hfull] at hP1
        have hx16 : ¬ v1 13 = 0 := by rw [hP1.2.1]; exact nI_nz (k := 2) (by decide) (by decide)
        refine XG.blk tX9_tellOne_ok 38 2 (pc' := 130) (pl' := [some (.ref 0), none]) (st' := [(.int (v1 13))]) (W1 := (mW v1 a b)) (bs := []) rfl rfl rfl ?_
        refine XG.br eX9_tellOne_130 (P := ¬ (v1 13) = 0) (r := []) rfl (tgt := 279) (by decide) (fun h130 => ?_) (fun h130 => ?_)
        · skip
          refine XS.vret eX9_tellOne_279 rfl ?_
          rw [e9, e8]
          exact ⟨v1, a, b, rfl, FrR.v hc1 (by decide), hP1, rfl⟩
        · exfalso
          have h130 := Decidable.not_not.mp h130
          first | exact hx16 h130 | exact h130 hx16
      · have e8 : tPr K (s, S) = bd (advS s) (fun s1 => paT K s1 S) := if_neg hfull
        rw [if_neg hfull] at hP1
        cases hs : advS s with
        | inl e =>
          rw [hs] at hP1 e8
          have hx16 : ¬ v1 13 = 0 := by rw [hP1.2.1]; exact nI_nz (by have := hP1.1; omega) (by have := hP1.1; omega)
          refine XG.blk tX9_tellOne_ok 38 2 (pc' := 130) (pl' := [some (.ref 0), none]) (st' := [(.int (v1 13))]) (W1 := (mW v1 a b)) (bs := []) rfl rfl rfl ?_
          refine XG.br eX9_tellOne_130 (P := ¬ (v1 13) = 0) (r := []) rfl (tgt := 279) (by decide) (fun h130 => ?_) (fun h130 => ?_)
          · skip
            refine XS.vret eX9_tellOne_279 rfl ?_
            rw [e9, e8]
            exact ⟨v1, a, b, rfl, FrR.v hc1 (by decide), hP1, rfl⟩
          · exfalso
            have h130 := Decidable.not_not.mp h130
            first | exact hx16 h130 | exact h130 hx16
        | inr s1 =>
          rw [hs] at hP1 e8
          have hx16 : v1 13 = 0 := hP1.2.2.1
          obtain ⟨-, hs1⟩ := advS_inr hs
          have hs2 : s1.1 = s.1 + 1 := by rw [hs1]
          refine XG.blk tX9_tellOne_ok 38 2 (pc' := 130) (pl' := [some (.ref 0), none]) (st' := [(.int (v1 13))]) (W1 := (mW v1 a b)) (bs := []) rfl rfl rfl ?_
          refine XG.br eX9_tellOne_130 (P := ¬ (v1 13) = 0) (r := []) rfl (tgt := 279) (by decide) (fun h130 => ?_) (fun h130 => ?_)
          · exfalso
            first | exact hx16 h130 | exact h130 hx16
          · skip
            have h130 := Decidable.not_not.mp h130
            refine XG.blk tX9_tellOne_ok 41 1 (pc' := 134) (pl' := [some (.ref 0), none]) (st' := [(.ref 0)]) (W1 := (mW v1 a b)) (bs := []) rfl rfl rfl ?_
            refine XG.callV0 eX9_tellOne_134 kl_X9_289 (con_tellPair (d - 1) v1 a b K hT sd ((hc1 19 (by decide)).trans hsd) hsd2 S s1 hP1 (hR.v (by omega) (hc1.mono (by decide))) (by omega) (by omega)) (px_fitS (by omega)) rfl rfl rfl (Nat.le_of_ble_eq_true rfl) (fun r9 W9 hp9 hl9 => ?_)
            obtain ⟨v2, a2, b2, rfl, hF2, hQ2, rfl⟩ := hp9
            refine XG.goto eX9_tellOne_137 (tgt := 279) (by decide) ?_
            refine XS.vret eX9_tellOne_279 rfl ?_
            rw [e9, e8]
            exact ⟨v2, a2, b2, rfl, (FrR.v hc1 (by decide)).tr hF2, hQ2, rfl⟩
    · cases hj9
      have hkk : K.1 s.1 = 23 := nI_of_toInt (by omega) (by rw [h9]; rfl)
      have q22 : (v 19) = (nI sd) := hsd
      have q23 : (nI sd).toNatClampNeg = sd := nI_clamp (by omega)
      have q24 : ((a 31) sd) = (nI (S.1 31)) := (hR.1 31 (by decide))
      refine XG.blk tX9_tellOne_ok 44 7 (pc' := 151) (pl' := [some (.ref 0), none]) (st' := [(.int (nI 5)), (.int ((a 31) (v 19).toNatClampNeg)), (.ref 0)]) (W1 := (mW v a b)) (bs := [px_vb (v 19) 2]) rfl rfl (by (try simp only [q22, q23, q24]); exact (px_all (px_vbN (by omega) (by decide)) rfl)) ?_
      simp only [q22, q23, q24]
      refine XG.callV0 eX9_tellOne_151 kl_X9_283 (con_roomFor (d - 1) v a b K hT s h hk0 (S.1 31) 5 (by omega) (by omega) (by omega)) (px_fitS (by omega)) rfl rfl rfl (Nat.le_of_ble_eq_true rfl) (fun r9 W9 hp9 hl9 => ?_)
      obtain ⟨v1, rfl, hc1, hP1, rfl⟩ := hp9
      have e9 : tellS K (s, S) = tCrs K (s, S) := by unfold tellS; rw [if_neg (show ¬ K.1 s.1 = 20 by omega), if_neg (show ¬ K.1 s.1 = 21 by omega), if_neg (show ¬ K.1 s.1 = 22 by omega), if_pos (show K.1 s.1 = 23 from hkk)]
      by_cases hfull : S.1 31 = 5
      · have e8 : tCrs K (s, S) = .inl (2, s.1) := if_pos hfull
        rw [if_pos hfull] at hP1
        have hx16 : ¬ v1 13 = 0 := by rw [hP1.2.1]; exact nI_nz (k := 2) (by decide) (by decide)
        refine XG.blk tX9_tellOne_ok 52 2 (pc' := 158) (pl' := [some (.ref 0), none]) (st' := [(.int (v1 13))]) (W1 := (mW v1 a b)) (bs := []) rfl rfl rfl ?_
        refine XG.br eX9_tellOne_158 (P := ¬ (v1 13) = 0) (r := []) rfl (tgt := 279) (by decide) (fun h158 => ?_) (fun h158 => ?_)
        · skip
          refine XS.vret eX9_tellOne_279 rfl ?_
          rw [e9, e8]
          exact ⟨v1, a, b, rfl, FrR.v hc1 (by decide), hP1, rfl⟩
        · exfalso
          have h158 := Decidable.not_not.mp h158
          first | exact hx16 h158 | exact h158 hx16
      · have e8 : tCrs K (s, S) = bd (advS s) (fun s1 => crT K s1 S) := if_neg hfull
        rw [if_neg hfull] at hP1
        cases hs : advS s with
        | inl e =>
          rw [hs] at hP1 e8
          have hx16 : ¬ v1 13 = 0 := by rw [hP1.2.1]; exact nI_nz (by have := hP1.1; omega) (by have := hP1.1; omega)
          refine XG.blk tX9_tellOne_ok 52 2 (pc' := 158) (pl' := [some (.ref 0), none]) (st' := [(.int (v1 13))]) (W1 := (mW v1 a b)) (bs := []) rfl rfl rfl ?_
          refine XG.br eX9_tellOne_158 (P := ¬ (v1 13) = 0) (r := []) rfl (tgt := 279) (by decide) (fun h158 => ?_) (fun h158 => ?_)
          · skip
            refine XS.vret eX9_tellOne_279 rfl ?_
            rw [e9, e8]
            exact ⟨v1, a, b, rfl, FrR.v hc1 (by decide), hP1, rfl⟩
          · exfalso
            have h158 := Decidable.not_not.mp h158
            first | exact hx16 h158 | exact h158 hx16
        | inr s1 =>
          rw [hs] at hP1 e8
          have hx16 : v1 13 = 0 := hP1.2.2.1
          obtain ⟨-, hs1⟩ := advS_inr hs
          have hs2 : s1.1 = s.1 + 1 := by rw [hs1]
          refine XG.blk tX9_tellOne_ok 52 2 (pc' := 158) (pl' := [some (.ref 0), none]) (st' := [(.int (v1 13))]) (W1 := (mW v1 a b)) (bs := []) rfl rfl rfl ?_
          refine XG.br eX9_tellOne_158 (P := ¬ (v1 13) = 0) (r := []) rfl (tgt := 279) (by decide) (fun h158 => ?_) (fun h158 => ?_)
          · exfalso
            first | exact hx16 h158 | exact h158 hx16
          · skip
            have h158 := Decidable.not_not.mp h158
            refine XG.blk tX9_tellOne_ok 55 1 (pc' := 162) (pl' := [some (.ref 0), none]) (st' := [(.ref 0)]) (W1 := (mW v1 a b)) (bs := []) rfl rfl rfl ?_
            refine XG.callV0 eX9_tellOne_162 kl_X9_292 (con_tellCrosser (d - 1) v1 a b K hT sd ((hc1 19 (by decide)).trans hsd) hsd2 S s1 hP1 (hR.v (by omega) (hc1.mono (by decide))) (by omega) (by omega)) (px_fitS (by omega)) rfl rfl rfl (Nat.le_of_ble_eq_true rfl) (fun r9 W9 hp9 hl9 => ?_)
            obtain ⟨v2, a2, b2, rfl, hF2, hQ2, rfl⟩ := hp9
            refine XG.goto eX9_tellOne_165 (tgt := 279) (by decide) ?_
            refine XS.vret eX9_tellOne_279 rfl ?_
            rw [e9, e8]
            exact ⟨v2, a2, b2, rfl, (FrR.v hc1 (by decide)).tr hF2, hQ2, rfl⟩
    · cases hj9
      have hkk : K.1 s.1 = 24 := nI_of_toInt (by omega) (by rw [h9]; rfl)
      have q25 : (v 11) = (nI s.1) := h11
      have q26 : (nI s.1).toNatClampNeg = s.1 := nI_clamp (by omega)
      have q27 : ((a 5) s.1) = (nI 24) := (by rw [hK.1, hkk])
      have q28 : ((nI 24) - (nI 24)) = (nI (24 - 24)) := px_esub rfl rfl (by omega)
      refine XG.blk tX9_tellOne_ok 88 9 (pc' := 240) (pl' := [some (.ref 0), some (.int (((a 5) (v 11).toNatClampNeg) - (nI 24)))]) (st' := [(.int (((a 5) (v 11).toNatClampNeg) - (nI 24)))]) (W1 := (mW v a b)) (bs := [px_vb (v 11) 403]) rfl rfl (by (try simp only [q25, q26, q27, q28]); exact (px_all (px_vbN (by omega) (by decide)) rfl)) ?_
      simp only [q25, q26, q27, q28]
      refine XG.br eX9_tellOne_240 (P := (nI (24 - 24)) < 0) (r := []) rfl (tgt := 257) (by decide) (fun h240 => ?_) (fun h240 => ?_)
      · exfalso
        have g240 : (24 - 24) < 0 := (nI_ltI (a := (24 - 24)) (b := 0) (by omega) (by omega)).mp h240
        omega
      · skip
        have g240 : ¬ (24 - 24) < 0 := (fun z => h240 ((nI_ltI (a := (24 - 24)) (b := 0) (by omega) (by omega)).mpr z))
        have q29 : (v 11) = (nI s.1) := h11
        have q30 : (nI s.1).toNatClampNeg = s.1 := nI_clamp (by omega)
        have q31 : ((a 5) s.1) = (nI 24) := (by rw [hK.1, hkk])
        refine XG.blk tX9_tellOne_ok 98 6 (pc' := 254) (pl' := [some (.ref 0), some (.int (nI (24 - 24)))]) (st' := [(.int (nI 26)), (.int ((a 5) (v 11).toNatClampNeg))]) (W1 := (mW v a b)) (bs := [px_vb (v 11) 403]) rfl rfl (by (try simp only [q29, q30, q31]); exact (px_all (px_vbN (by omega) (by decide)) rfl)) ?_
        simp only [q29, q30, q31]
        refine XG.br eX9_tellOne_254 (P := (nI 24) ≤ (nI 26)) (r := []) rfl (tgt := 262) (by decide) (fun h254 => ?_) (fun h254 => ?_)
        · skip
          have g254 : 24 ≤ 26 := (nI_leI (a := 24) (b := 26) (by omega) (by omega)).mp h254
          refine XG.blk tX9_tellOne_ok 108 2 (pc' := 266) (pl' := [some (.ref 0), some (.int (nI (24 - 24)))]) (st' := [(.int (v 13))]) (W1 := (mW v a b)) (bs := []) rfl rfl rfl ?_
          refine XG.br eX9_tellOne_266 (P := (v 13) ≤ 0) (r := []) rfl (tgt := 270) (by decide) (fun h266 => ?_) (fun h266 => ?_)
          · skip
            refine XG.blk tX9_tellOne_ok 112 1 (pc' := 271) (pl' := [some (.ref 0), some (.int (nI (24 - 24)))]) (st' := [(.ref 0)]) (W1 := (mW v a b)) (bs := []) rfl rfl rfl ?_
            refine XG.callV0 eX9_tellOne_271 kl_X9_236 (con_goS (d - 1) v a b K hT s h hk0 (by omega)) (px_fitS (by omega)) rfl rfl rfl (Nat.le_of_ble_eq_true rfl) (fun r9 W9 hp9 hl9 => ?_)
            obtain ⟨v1, rfl, hc1, hP1, rfl⟩ := hp9
            refine XG.blk tX9_tellOne_ok 114 2 (pc' := 276) (pl' := [some (.ref 0), some (.int (nI (24 - 24)))]) (st' := [(.int (nI (24 - 24))), (.ref 0)]) (W1 := (mW v1 a b)) (bs := []) rfl rfl rfl ?_
            refine XG.callV0 eX9_tellOne_276 kl_X9_295 (con_tellLaw (d - 1) v1 a b K hT sd ((hc1 19 (by decide)).trans hsd) hsd2 S s.1 s.2 (advN s.1) rfl ht hP1 (hR.v (Nat.le_refl _) (hc1.mono (by decide))) (24 - 24) (by omega) (by omega)) (px_fitS (by omega)) rfl rfl rfl (Nat.le_of_ble_eq_true rfl) (fun r9 W9 hp9 hl9 => ?_)
            obtain ⟨v2, a2, b2, rfl, hF2, hQ2, rfl⟩ := hp9
            refine XS.vret eX9_tellOne_279 rfl ?_
            have e9 : tellS K (s, S) = tLaw K (K.1 s.1 - 24) (s, S) := by unfold tellS; rw [if_neg (show ¬ K.1 s.1 = 20 by omega), if_neg (show ¬ K.1 s.1 = 21 by omega), if_neg (show ¬ K.1 s.1 = 22 by omega), if_neg (show ¬ K.1 s.1 = 23 by omega), if_neg (show ¬ K.1 s.1 = 27 by omega), if_neg (show ¬ K.1 s.1 = 28 by omega), if_neg (show ¬ K.1 s.1 = 29 by omega), if_pos (show 24 ≤ K.1 s.1 ∧ K.1 s.1 ≤ 26 by omega)]
            rw [e9, show K.1 s.1 - 24 = 0 by omega]
            exact ⟨v2, a2, b2, rfl, (FrR.v hc1 (by decide)).tr hF2, hQ2, rfl⟩
          · exfalso
            first | exact hx15 h266 | exact h266 hx14
        · exfalso
          have g254 : ¬ 24 ≤ 26 := (fun z => h254 ((nI_leI (a := 24) (b := 26) (by omega) (by omega)).mpr z))
          omega
    · cases hj9
      have hkk : K.1 s.1 = 25 := nI_of_toInt (by omega) (by rw [h9]; rfl)
      have q32 : (v 11) = (nI s.1) := h11
      have q33 : (nI s.1).toNatClampNeg = s.1 := nI_clamp (by omega)
      have q34 : ((a 5) s.1) = (nI 25) := (by rw [hK.1, hkk])
      have q35 : ((nI 25) - (nI 24)) = (nI (25 - 24)) := px_esub rfl rfl (by omega)
      refine XG.blk tX9_tellOne_ok 88 9 (pc' := 240) (pl' := [some (.ref 0), some (.int (((a 5) (v 11).toNatClampNeg) - (nI 24)))]) (st' := [(.int (((a 5) (v 11).toNatClampNeg) - (nI 24)))]) (W1 := (mW v a b)) (bs := [px_vb (v 11) 403]) rfl rfl (by (try simp only [q32, q33, q34, q35]); exact (px_all (px_vbN (by omega) (by decide)) rfl)) ?_
      simp only [q32, q33, q34, q35]
      refine XG.br eX9_tellOne_240 (P := (nI (25 - 24)) < 0) (r := []) rfl (tgt := 257) (by decide) (fun h240 => ?_) (fun h240 => ?_)
      · exfalso
        have g240 : (25 - 24) < 0 := (nI_ltI (a := (25 - 24)) (b := 0) (by omega) (by omega)).mp h240
        omega
      · skip
        have g240 : ¬ (25 - 24) < 0 := (fun z => h240 ((nI_ltI (a := (25 - 24)) (b := 0) (by omega) (by omega)).mpr z))
        have q36 : (v 11) = (nI s.1) := h11
        have q37 : (nI s.1).toNatClampNeg = s.1 := nI_clamp (by omega)
        have q38 : ((a 5) s.1) = (nI 25) := (by rw [hK.1, hkk])
        refine XG.blk tX9_tellOne_ok 98 6 (pc' := 254) (pl' := [some (.ref 0), some (.int (nI (25 - 24)))]) (st' := [(.int (nI 26)), (.int ((a 5) (v 11).toNatClampNeg))]) (W1 := (mW v a b)) (bs := [px_vb (v 11) 403]) rfl rfl (by (try simp only [q36, q37, q38]); exact (px_all (px_vbN (by omega) (by decide)) rfl)) ?_
        simp only [q36, q37, q38]
        refine XG.br eX9_tellOne_254 (P := (nI 25) ≤ (nI 26)) (r := []) rfl (tgt := 262) (by decide) (fun h254 => ?_) (fun h254 => ?_)
        · skip
          have g254 : 25 ≤ 26 := (nI_leI (a := 25) (b := 26) (by omega) (by omega)).mp h254
          refine XG.blk tX9_tellOne_ok 108 2 (pc' := 266) (pl' := [some (.ref 0), some (.int (nI (25 - 24)))]) (st' := [(.int (v 13))]) (W1 := (mW v a b)) (bs := []) rfl rfl rfl ?_
          refine XG.br eX9_tellOne_266 (P := (v 13) ≤ 0) (r := []) rfl (tgt := 270) (by decide) (fun h266 => ?_) (fun h266 => ?_)
          · skip
            refine XG.blk tX9_tellOne_ok 112 1 (pc' := 271) (pl' := [some (.ref 0), some (.int (nI (25 - 24)))]) (st' := [(.ref 0)]) (W1 := (mW v a b)) (bs := []) rfl rfl rfl ?_
            refine XG.callV0 eX9_tellOne_271 kl_X9_236 (con_goS (d - 1) v a b K hT s h hk0 (by omega)) (px_fitS (by omega)) rfl rfl rfl (Nat.le_of_ble_eq_true rfl) (fun r9 W9 hp9 hl9 => ?_)
            obtain ⟨v1, rfl, hc1, hP1, rfl⟩ := hp9
            refine XG.blk tX9_tellOne_ok 114 2 (pc' := 276) (pl' := [some (.ref 0), some (.int (nI (25 - 24)))]) (st' := [(.int (nI (25 - 24))), (.ref 0)]) (W1 := (mW v1 a b)) (bs := []) rfl rfl rfl ?_
            refine XG.callV0 eX9_tellOne_276 kl_X9_295 (con_tellLaw (d - 1) v1 a b K hT sd ((hc1 19 (by decide)).trans hsd) hsd2 S s.1 s.2 (advN s.1) rfl ht hP1 (hR.v (Nat.le_refl _) (hc1.mono (by decide))) (25 - 24) (by omega) (by omega)) (px_fitS (by omega)) rfl rfl rfl (Nat.le_of_ble_eq_true rfl) (fun r9 W9 hp9 hl9 => ?_)
            obtain ⟨v2, a2, b2, rfl, hF2, hQ2, rfl⟩ := hp9
            refine XS.vret eX9_tellOne_279 rfl ?_
            have e9 : tellS K (s, S) = tLaw K (K.1 s.1 - 24) (s, S) := by unfold tellS; rw [if_neg (show ¬ K.1 s.1 = 20 by omega), if_neg (show ¬ K.1 s.1 = 21 by omega), if_neg (show ¬ K.1 s.1 = 22 by omega), if_neg (show ¬ K.1 s.1 = 23 by omega), if_neg (show ¬ K.1 s.1 = 27 by omega), if_neg (show ¬ K.1 s.1 = 28 by omega), if_neg (show ¬ K.1 s.1 = 29 by omega), if_pos (show 24 ≤ K.1 s.1 ∧ K.1 s.1 ≤ 26 by omega)]
            rw [e9, show K.1 s.1 - 24 = 1 by omega]
            exact ⟨v2, a2, b2, rfl, (FrR.v hc1 (by decide)).tr hF2, hQ2, rfl⟩
          · exfalso
            first | exact hx15 h266 | exact h266 hx14
        · exfalso
          have g254 : ¬ 25 ≤ 26 := (fun z => h254 ((nI_leI (a := 25) (b := 26) (by omega) (by omega)).mpr z))
          omega
    · cases hj9
      have hkk : K.1 s.1 = 26 := nI_of_toInt (by omega) (by rw [h9]; rfl)
      have q39 : (v 11) = (nI s.1) := h11
      have q40 : (nI s.1).toNatClampNeg = s.1 := nI_clamp (by omega)
      have q41 : ((a 5) s.1) = (nI 26) := (by rw [hK.1, hkk])
      have q42 : ((nI 26) - (nI 24)) = (nI (26 - 24)) := px_esub rfl rfl (by omega)
      refine XG.blk tX9_tellOne_ok 88 9 (pc' := 240) (pl' := [some (.ref 0), some (.int (((a 5) (v 11).toNatClampNeg) - (nI 24)))]) (st' := [(.int (((a 5) (v 11).toNatClampNeg) - (nI 24)))]) (W1 := (mW v a b)) (bs := [px_vb (v 11) 403]) rfl rfl (by (try simp only [q39, q40, q41, q42]); exact (px_all (px_vbN (by omega) (by decide)) rfl)) ?_
      simp only [q39, q40, q41, q42]
      refine XG.br eX9_tellOne_240 (P := (nI (26 - 24)) < 0) (r := []) rfl (tgt := 257) (by decide) (fun h240 => ?_) (fun h240 => ?_)
      · exfalso
        have g240 : (26 - 24) < 0 := (nI_ltI (a := (26 - 24)) (b := 0) (by omega) (by omega)).mp h240
        omega
      · skip
        have g240 : ¬ (26 - 24) < 0 := (fun z => h240 ((nI_ltI (a := (26 - 24)) (b := 0) (by omega) (by omega)).mpr z))
        have q43 : (v 11) = (nI s.1) := h11
        have q44 : (nI s.1).toNatClampNeg = s.1 := nI_clamp (by omega)
        have q45 : ((a 5) s.1) = (nI 26) := (by rw [hK.1, hkk])
        refine XG.blk tX9_tellOne_ok 98 6 (pc' := 254) (pl' := [some (.ref 0), some (.int (nI (26 - 24)))]) (st' := [(.int (nI 26)), (.int ((a 5) (v 11).toNatClampNeg))]) (W1 := (mW v a b)) (bs := [px_vb (v 11) 403]) rfl rfl (by (try simp only [q43, q44, q45]); exact (px_all (px_vbN (by omega) (by decide)) rfl)) ?_
        simp only [q43, q44, q45]
        refine XG.br eX9_tellOne_254 (P := (nI 26) ≤ (nI 26)) (r := []) rfl (tgt := 262) (by decide) (fun h254 => ?_) (fun h254 => ?_)
        · skip
          have g254 : 26 ≤ 26 := (nI_leI (a := 26) (b := 26) (by omega) (by omega)).mp h254
          refine XG.blk tX9_tellOne_ok 108 2 (pc' := 266) (pl' := [some (.ref 0), some (.int (nI (26 - 24)))]) (st' := [(.int (v 13))]) (W1 := (mW v a b)) (bs := []) rfl rfl rfl ?_
          refine XG.br eX9_tellOne_266 (P := (v 13) ≤ 0) (r := []) rfl (tgt := 270) (by decide) (fun h266 => ?_) (fun h266 => ?_)
          · skip
            refine XG.blk tX9_tellOne_ok 112 1 (pc' := 271) (pl' := [some (.ref 0), some (.int (nI (26 - 24)))]) (st' := [(.ref 0)]) (W1 := (mW v a b)) (bs := []) rfl rfl rfl ?_
            refine XG.callV0 eX9_tellOne_271 kl_X9_236 (con_goS (d - 1) v a b K hT s h hk0 (by omega)) (px_fitS (by omega)) rfl rfl rfl (Nat.le_of_ble_eq_true rfl) (fun r9 W9 hp9 hl9 => ?_)
            obtain ⟨v1, rfl, hc1, hP1, rfl⟩ := hp9
            refine XG.blk tX9_tellOne_ok 114 2 (pc' := 276) (pl' := [some (.ref 0), some (.int (nI (26 - 24)))]) (st' := [(.int (nI (26 - 24))), (.ref 0)]) (W1 := (mW v1 a b)) (bs := []) rfl rfl rfl ?_
            refine XG.callV0 eX9_tellOne_276 kl_X9_295 (con_tellLaw (d - 1) v1 a b K hT sd ((hc1 19 (by decide)).trans hsd) hsd2 S s.1 s.2 (advN s.1) rfl ht hP1 (hR.v (Nat.le_refl _) (hc1.mono (by decide))) (26 - 24) (by omega) (by omega)) (px_fitS (by omega)) rfl rfl rfl (Nat.le_of_ble_eq_true rfl) (fun r9 W9 hp9 hl9 => ?_)
            obtain ⟨v2, a2, b2, rfl, hF2, hQ2, rfl⟩ := hp9
            refine XS.vret eX9_tellOne_279 rfl ?_
            have e9 : tellS K (s, S) = tLaw K (K.1 s.1 - 24) (s, S) := by unfold tellS; rw [if_neg (show ¬ K.1 s.1 = 20 by omega), if_neg (show ¬ K.1 s.1 = 21 by omega), if_neg (show ¬ K.1 s.1 = 22 by omega), if_neg (show ¬ K.1 s.1 = 23 by omega), if_neg (show ¬ K.1 s.1 = 27 by omega), if_neg (show ¬ K.1 s.1 = 28 by omega), if_neg (show ¬ K.1 s.1 = 29 by omega), if_pos (show 24 ≤ K.1 s.1 ∧ K.1 s.1 ≤ 26 by omega)]
            rw [e9, show K.1 s.1 - 24 = 2 by omega]
            exact ⟨v2, a2, b2, rfl, (FrR.v hc1 (by decide)).tr hF2, hQ2, rfl⟩
          · exfalso
            first | exact hx15 h266 | exact h266 hx14
        · exfalso
          have g254 : ¬ 26 ≤ 26 := (fun z => h254 ((nI_leI (a := 26) (b := 26) (by omega) (by omega)).mpr z))
          omega
    · cases hj9
      have hkk : K.1 s.1 = 27 := nI_of_toInt (by omega) (by rw [h9]; rfl)
      have q46 : (v 19) = (nI sd) := hsd
      refine XG.blk tX9_tellOne_ok 58 7 (pc' := 180) (pl' := [some (.ref 0), none]) (st' := [(.int (nI 99)), (.int (nI 0)), (.ref 0), (.int (v 19)), (.ref 22)]) (W1 := (mW v a b)) (bs := []) rfl rfl rfl ?_
      simp only [q46]
      refine XG.callV0 eX9_tellOne_180 kl_X9_280 (con_toldInt (d - 1) v a b K hT s h hk0 0 99 (by omega) (by omega) (by omega)) (px_fitS (by omega)) rfl rfl rfl (Nat.le_of_ble_eq_true rfl) (fun r9 W9 hp9 hl9 => ?_)
      obtain ⟨v1, x1, rfl, hc1, hP1, rfl, hx1⟩ := hp9
      have q47 : (nI sd).toNatClampNeg = sd := nI_clamp (by omega)
      refine XG.blk tX9_tellOne_ok 66 1 (pc' := 184) (pl' := [some (.ref 0), none]) (st' := []) (W1 := (mW v1 (va_up a 35 (upd (a 35) (nI sd).toNatClampNeg x1)) b)) (bs := [px_vb (nI sd) 2]) rfl rfl (by (try simp only [q47]); exact (px_all (px_vbN (by omega) (by decide)) rfl)) ?_
      simp only [q47]
      refine XG.goto eX9_tellOne_184 (tgt := 279) (by decide) ?_
      refine XS.vret eX9_tellOne_279 rfl ?_
      have e9 : tellS K (s, S) = tNum K 35 0 99 (s, S) := by unfold tellS; rw [if_neg (show ¬ K.1 s.1 = 20 by omega), if_neg (show ¬ K.1 s.1 = 21 by omega), if_neg (show ¬ K.1 s.1 = 22 by omega), if_neg (show ¬ K.1 s.1 = 23 by omega), if_pos (show K.1 s.1 = 27 from hkk)]
      rw [e9]
      refine ⟨_, _, b, rfl, ⟨hc1.mono (by decide), (FrR.set (v := v) (b := b) 35 sd x1 (by rw [show strd 35 = 1 from by decide]; omega) (by rw [show strd 35 = 1 from by decide]; omega)).2.1, chg.rf⟩, ?_, rfl⟩
      show RQ K sd (bd (bd (bd (advS s) (bndS K 0 99)) (mstS K 4)) _) _ _ _
      cases hr : bd (bd (advS s) (bndS K 0 99)) (mstS K 4) with
      | inl e => rw [hr] at hP1; exact hP1
      | inr s3 =>
        rw [hr] at hP1
        obtain ⟨s2, e2, m3⟩ := bd_inrE hr
        obtain ⟨s1, e1, m2⟩ := bd_inrE e2
        obtain ⟨-, hs1⟩ := advS_inr e1
        have p2 := (bndS_inr m2).2.2
        obtain ⟨-, -, p3⟩ := mstS_inr m3
        have hs2 : s1.1 = s.1 + 1 := by rw [hs1]
        refine ⟨hP1, hR.num (by rw [p3]; show s.1 ≤ s2.1 + 1; omega) hc1 (by decide) ?_⟩
        rw [hx1 s1 s2 e1 m2, hs2]
    · cases hj9
      have hkk : K.1 s.1 = 28 := nI_of_toInt (by omega) (by rw [h9]; rfl)
      have q48 : (v 19) = (nI sd) := hsd
      refine XG.blk tX9_tellOne_ok 68 7 (pc' := 199) (pl' := [some (.ref 0), none]) (st' := [(.int (nI 99)), (.int (nI 0)), (.ref 0), (.int (v 19)), (.ref 23)]) (W1 := (mW v a b)) (bs := []) rfl rfl rfl ?_
      simp only [q48]
      refine XG.callV0 eX9_tellOne_199 kl_X9_280 (con_toldInt (d - 1) v a b K hT s h hk0 0 99 (by omega) (by omega) (by omega)) (px_fitS (by omega)) rfl rfl rfl (Nat.le_of_ble_eq_true rfl) (fun r9 W9 hp9 hl9 => ?_)
      obtain ⟨v1, x1, rfl, hc1, hP1, rfl, hx1⟩ := hp9
      have q49 : (nI sd).toNatClampNeg = sd := nI_clamp (by omega)
      refine XG.blk tX9_tellOne_ok 76 1 (pc' := 203) (pl' := [some (.ref 0), none]) (st' := []) (W1 := (mW v1 (va_up a 36 (upd (a 36) (nI sd).toNatClampNeg x1)) b)) (bs := [px_vb (nI sd) 2]) rfl rfl (by (try simp only [q49]); exact (px_all (px_vbN (by omega) (by decide)) rfl)) ?_
      simp only [q49]
      refine XG.goto eX9_tellOne_203 (tgt := 279) (by decide) ?_
      refine XS.vret eX9_tellOne_279 rfl ?_
      have e9 : tellS K (s, S) = tNum K 36 0 99 (s, S) := by unfold tellS; rw [if_neg (show ¬ K.1 s.1 = 20 by omega), if_neg (show ¬ K.1 s.1 = 21 by omega), if_neg (show ¬ K.1 s.1 = 22 by omega), if_neg (show ¬ K.1 s.1 = 23 by omega), if_neg (show ¬ K.1 s.1 = 27 by omega), if_pos (show K.1 s.1 = 28 from hkk)]
      rw [e9]
      refine ⟨_, _, b, rfl, ⟨hc1.mono (by decide), (FrR.set (v := v) (b := b) 36 sd x1 (by rw [show strd 36 = 1 from by decide]; omega) (by rw [show strd 36 = 1 from by decide]; omega)).2.1, chg.rf⟩, ?_, rfl⟩
      show RQ K sd (bd (bd (bd (advS s) (bndS K 0 99)) (mstS K 4)) _) _ _ _
      cases hr : bd (bd (advS s) (bndS K 0 99)) (mstS K 4) with
      | inl e => rw [hr] at hP1; exact hP1
      | inr s3 =>
        rw [hr] at hP1
        obtain ⟨s2, e2, m3⟩ := bd_inrE hr
        obtain ⟨s1, e1, m2⟩ := bd_inrE e2
        obtain ⟨-, hs1⟩ := advS_inr e1
        have p2 := (bndS_inr m2).2.2
        obtain ⟨-, -, p3⟩ := mstS_inr m3
        have hs2 : s1.1 = s.1 + 1 := by rw [hs1]
        refine ⟨hP1, hR.num (by rw [p3]; show s.1 ≤ s2.1 + 1; omega) hc1 (by decide) ?_⟩
        rw [hx1 s1 s2 e1 m2, hs2]
    · cases hj9
      have hkk : K.1 s.1 = 29 := nI_of_toInt (by omega) (by rw [h9]; rfl)
      have q50 : (v 19) = (nI sd) := hsd
      refine XG.blk tX9_tellOne_ok 78 7 (pc' := 219) (pl' := [some (.ref 0), none]) (st' := [(.int (nI 9999)), (.int (nI 0)), (.ref 0), (.int (v 19)), (.ref 24)]) (W1 := (mW v a b)) (bs := []) rfl rfl rfl ?_
      simp only [q50]
      refine XG.callV0 eX9_tellOne_219 kl_X9_280 (con_toldInt (d - 1) v a b K hT s h hk0 0 9999 (by omega) (by omega) (by omega)) (px_fitS (by omega)) rfl rfl rfl (Nat.le_of_ble_eq_true rfl) (fun r9 W9 hp9 hl9 => ?_)
      obtain ⟨v1, x1, rfl, hc1, hP1, rfl, hx1⟩ := hp9
      have q51 : (nI sd).toNatClampNeg = sd := nI_clamp (by omega)
      refine XG.blk tX9_tellOne_ok 86 1 (pc' := 223) (pl' := [some (.ref 0), none]) (st' := []) (W1 := (mW v1 (va_up a 37 (upd (a 37) (nI sd).toNatClampNeg x1)) b)) (bs := [px_vb (nI sd) 2]) rfl rfl (by (try simp only [q51]); exact (px_all (px_vbN (by omega) (by decide)) rfl)) ?_
      simp only [q51]
      refine XG.goto eX9_tellOne_223 (tgt := 279) (by decide) ?_
      refine XS.vret eX9_tellOne_279 rfl ?_
      have e9 : tellS K (s, S) = tNum K 37 0 9999 (s, S) := by unfold tellS; rw [if_neg (show ¬ K.1 s.1 = 20 by omega), if_neg (show ¬ K.1 s.1 = 21 by omega), if_neg (show ¬ K.1 s.1 = 22 by omega), if_neg (show ¬ K.1 s.1 = 23 by omega), if_neg (show ¬ K.1 s.1 = 27 by omega), if_neg (show ¬ K.1 s.1 = 28 by omega), if_pos (show K.1 s.1 = 29 from hkk)]
      rw [e9]
      refine ⟨_, _, b, rfl, ⟨hc1.mono (by decide), (FrR.set (v := v) (b := b) 37 sd x1 (by rw [show strd 37 = 1 from by decide]; omega) (by rw [show strd 37 = 1 from by decide]; omega)).2.1, chg.rf⟩, ?_, rfl⟩
      show RQ K sd (bd (bd (bd (advS s) (bndS K 0 9999)) (mstS K 4)) _) _ _ _
      cases hr : bd (bd (advS s) (bndS K 0 9999)) (mstS K 4) with
      | inl e => rw [hr] at hP1; exact hP1
      | inr s3 =>
        rw [hr] at hP1
        obtain ⟨s2, e2, m3⟩ := bd_inrE hr
        obtain ⟨s1, e1, m2⟩ := bd_inrE e2
        obtain ⟨-, hs1⟩ := advS_inr e1
        have p2 := (bndS_inr m2).2.2
        obtain ⟨-, -, p3⟩ := mstS_inr m3
        have hs2 : s1.1 = s.1 + 1 := by rw [hs1]
        refine ⟨hP1, hR.num (by rw [p3]; show s.1 ≤ s2.1 + 1; omega) hc1 (by decide) ?_⟩
        rw [hx1 s1 s2 e1 m2, hs2]
