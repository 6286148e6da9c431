/-! the reference: tells -/
theorem RD.law {S : SD} {sd t0 t' F Q B' Q' k : Nat} {bs : List LBr} {v v' : Nat → Int32} {a a' : Nat → Nat → Int32} {b : Nat → Nat → Int64} (h : RD S sd t0 v a b) (hk : k < 3) (hsd : sd < 2) (ht : t0 ≤ 400) (h40 : v 40 = nI F) (h46 : v 46 = nI Q) (hF : F < 300) (hQ9 : Q < 1000) (hv : chg lvV v v') (ha : FrW F Q sd a a') (e12 : v' 12 = nI 0) (e40 : v' 40 = nI B') (e46 : v' 46 = nI Q') (hB : F ≤ B') (hB2 : B' = F + bs.length) (hbs0 : bs ≠ []) (hB4 : 4 * B' ≤ t' + 4 * (130 * sd)) (hQ1 : Q ≤ Q') (hQ2 : Q' ≤ t' + 420 * sd) (hbs : ∀ i br, bs[i]? = some br → brR a' (420 * sd) Q' (F + i) br) : RD (S.1, S.2.1, S.2.2.1, S.2.2.2.1, va_up S.2.2.2.2 k (some bs)) sd t' v' (va_up (va_up a' 38 (upd (a' 38) (3 * sd + k) (nI F))) 39 (upd (a' 39) (3 * sd + k) (nI B'))) b := by
  obtain ⟨h1, h2, h3, h4, h5, h6, ⟨B0, Q0, c1, c2, c3, c4, c5, c6, c7⟩, h8⟩ := h
  obtain rfl : B0 = F := (nI_eq (by omega) (by omega)).mp (c1.symm.trans h40)
  obtain rfl : Q0 = Q := (nI_eq (by omega) (by omega)).mp (c2.symm.trans h46)
  have e : ∀ j, j ∉ [38, 39, 41, 42, 43, 44, 45, 47, 48, 49] → va_up (va_up a' 38 (upd (a' 38) (3 * sd + k) (nI B0))) 39 (upd (a' 39) (3 * sd + k) (nI B')) j = a j := by
    intro j hj
    rw [← ha.1 j (fun z => hj (by revert z; simp only [List.mem_cons, List.not_mem_nil, or_false]; omega))]
    exact (if_neg (fun z => hj (by rw [z]; decide))).trans (if_neg (fun z => hj (by rw [z]; decide)))
  refine ⟨fun j hj => ?_, h2, fun i hi j hj => ?_, fun i hi j hj => ?_, ⟨⟨(hv 20 (by decide)).trans h5.1.1, h5.1.2.1, fun i x hi => ?_⟩, h5.2⟩, ?_, ⟨B', Q', e40, e46, by omega, hB4, by omega, hQ2, fun j hj => ?_⟩, e12⟩
  · rw [e j (by revert hj; simp only [List.mem_cons, List.not_mem_nil, or_false]; omega)]; exact h1 j hj
  · rw [e j (by revert hj; simp only [List.mem_cons, List.not_mem_nil, or_false]; omega)]; exact h3 i hi j hj
  · rw [e j (by revert hj; simp only [List.mem_cons, List.not_mem_nil, or_false]; omega)]; exact h4 i hi j hj
  · rw [e 22 (by decide)]; exact h5.1.2.2 i x hi
  · show PrR S.2.2.2.1 (va_up (va_up a' 38 (upd (a' 38) (3 * sd + k) (nI B0))) 39 (upd (a' 39) (3 * sd + k) (nI B')) 29) sd
    rw [e 29 (by decide)]; exact h6
  · have e38 : ∀ j, va_up (va_up a' 38 (upd (a' 38) (3 * sd + k) (nI B0))) 39 (upd (a' 39) (3 * sd + k) (nI B')) 38 j = upd (a' 38) (3 * sd + k) (nI B0) j := fun _ => rfl
    have e39 : ∀ j, va_up (va_up a' 38 (upd (a' 38) (3 * sd + k) (nI B0))) 39 (upd (a' 39) (3 * sd + k) (nI B')) 39 j = upd (a' 39) (3 * sd + k) (nI B') j := fun _ => rfl
    have hbr : ∀ lo hi f br, brR a' lo hi f br → brR (va_up (va_up a' 38 (upd (a' 38) (3 * sd + k) (nI B0))) 39 (upd (a' 39) (3 * sd + k) (nI B'))) lo hi f br := fun lo hi f br hb => brR_chg (fun z hz => (if_neg (by rintro rfl; revert hz; decide)).trans (if_neg (by rintro rfl; revert hz; decide))) hb
    by_cases ej : j = k
    · subst ej
      show LwR _ sd B' Q' (va_up S.2.2.2.2 j (some bs) j) _
      rw [show va_up S.2.2.2.2 j (some bs) j = some bs from if_pos rfl]
      refine ⟨hbs0, B0, c3, by omega, ?_, ?_, fun i br hi => hbr _ _ _ _ (hbs i br hi)⟩
      · rw [e38]; exact pk_us
      · rw [e39, pk_us, hB2]
    · show LwR _ sd B' Q' (va_up S.2.2.2.2 k (some bs) j) _
      rw [show va_up S.2.2.2.2 k (some bs) j = S.2.2.2.2 j from if_neg ej]
      have h9 := LwR_W (c7 j hj) ha hQ1 hB
      cases hl : S.2.2.2.2 j with
      | none =>
        rw [hl] at h9
        exact ⟨by rw [e38, pk_un (by omega)]; exact h9.1, by rw [e39, pk_un (by omega)]; exact h9.2⟩
      | some cs =>
        rw [hl] at h9
        obtain ⟨g0, f, g1, g2, g3, g4, g5⟩ := h9
        exact ⟨g0, f, g1, g2, by rw [e38, pk_un (by omega)]; exact g3, by rw [e39, pk_un (by omega)]; exact g4, fun i br hi => hbr _ _ _ _ (g5 i br hi)⟩
set_option maxHeartbeats 400000 in
theorem con_tellLaw (d : Nat) (v : Nat → Int32) (a : Nat → Nat → Int32) (b : Nat → Nat → Int64) (K : TKS) (hT : Tok K a b) (sd : Nat) (hsd : v 19 = nI sd) (hsd2 : sd < 2) (S : SD) (t0 : Nat) (w : Option PE) (r : PE ⊕ Nat) (hr : r = advN t0) (ht0 : t0 ≤ 400) (h : PVr K (bd r (fun t => .inr (t, w))) v) (hR : RD S sd t0 v a b) (k : Nat) (hk : k < 3) (hd : 6 ≤ d) : Con mX9_tellLaw d [.ref 0, .int (nI k)] (mW v a b) (fun q W' => ∃ v' a' b', W' = mW v' a' b' ∧ FrR sd v v' a a' b b' ∧ RQ K sd (bd r (fun t => lwT K k (t, w) S)) v' a' b' ∧ q = none) := by
  obtain ⟨F, Q, h40, h46, hF, hF4, hQ, hQ2, -⟩ := id hR.2.2.2.2.2.2.1
  have h12 := hR.2.2.2.2.2.2.2
  have ha : FrW F Q sd a a := FrW.rf
  have hv : chg lvV v v := chg.rf
  refine Con.of (by decide) (Nat.le_of_ble_eq_true rfl) ?_
  cases r with
  | inl e =>
    refine XG.blk tX9_tellLaw_ok 0 2 (pc' := 2) (pl' := [some (.ref 0), some (.int (nI k)), none, none]) (st' := [(.int (nI 5)), (.ref 0)]) (W1 := (mW v a b)) (bs := []) rfl rfl rfl ?_
    refine XG.callV0 eX9_tellLaw_2 kl_X9_277 (con_must (d - 1) v a b K (ha.tok hT) (.inl e) h 5 (by omega) (by omega) (by omega)) (px_fitS (by omega)) rfl rfl rfl (Nat.le_of_ble_eq_true rfl) (fun r9 W9 hp9 hl9 => ?_)
    obtain ⟨v1, rfl, hc1, hP1, rfl⟩ := hp9
    have h40_1 : v1 40 = nI F := (hc1 40 (by decide)).trans h40
    have hx13 : ¬ v1 13 = 0 := by rw [hP1.2.1]; exact nI_nz (by have := hP1.1; omega) (by have := hP1.1; omega)
    have q1 : (v1 40) = (nI F) := h40_1
    refine XG.blk tX9_tellLaw_ok 3 7 (pc' := 16) (pl' := [some (.ref 0), some (.int (nI k)), some (.int (v1 40)), some (.int (nI 0))]) (st' := [(.int (v1 13))]) (W1 := (mW v1 a b)) (bs := []) rfl rfl rfl ?_
    simp only [q1]
    refine XG.br eX9_tellLaw_16 (P := ¬ (v1 13) = 0) (r := []) rfl (tgt := 129) (by decide) (fun h16 => ?_) (fun h16 => ?_)
    · skip
      have q2 : (v1 40) = (nI F) := h40_1
      have q3 : (nI F).toNatClampNeg = F := nI_clamp (by omega)
      have q4 : (vp_nar .boolean (nI 0)) = (nI 0) := by decide
      refine XG.blk tX9_tellLaw_ok 67 7 (pc' := 140) (pl' := [some (.ref 0), some (.int (nI k)), some (.int (nI F)), some (.int (nI 0))]) (st' := [(.ref 0)]) (W1 := (mW v1 (va_up a 41 (upd (a 41) (v1 40).toNatClampNeg (vp_nar .boolean (nI 0)))) b)) (bs := [px_vb (v1 40) 260]) rfl rfl (by (try simp only [q2, q3, q4]); exact (px_all (px_vbN (by omega) (by decide)) rfl)) ?_
      simp only [q2, q3, q4]
      refine XG.callV0 eX9_tellLaw_140 kl_X9_311 (con_termX (d - 1) v1 (va_up a 41 (upd (a 41) F (nI 0))) b K e hP1 F h40_1 (by omega) (by omega)) (px_fitS (by omega)) rfl rfl rfl (Nat.le_of_ble_eq_true rfl) (fun r9 W9 hp9 hl9 => ?_)
      obtain ⟨rfl, rfl⟩ := hp9
      refine XG.blk tX9_tellLaw_ok 75 2 (pc' := 145) (pl' := [some (.ref 0), some (.int (nI k)), some (.int (nI F)), some (.int (nI 0))]) (st' := [(.int (nI 4)), (.ref 0)]) (W1 := (mW (va_up v1 40 (nI (F + 1))) (va_up (va_up (va_up a 41 (upd (a 41) F (nI 0))) 44 (upd (a 44) F (v1 46))) 45 (upd (a 45) F (v1 46))) b)) (bs := []) rfl rfl rfl ?_
      have hQ1 := PVr.v5 (v' := (va_up v1 40 (nI (F + 1)))) hP1 rfl rfl rfl rfl rfl
      refine XG.callV0 eX9_tellLaw_145 kl_X9_277 (con_must (d - 1) (va_up v1 40 (nI (F + 1))) (va_up (va_up (va_up a 41 (upd (a 41) F (nI 0))) 44 (upd (a 44) F (v1 46))) 45 (upd (a 45) F (v1 46))) b K (((ha.tr (FrW.set 41 F _ (by decide) (by omega) (by omega))).tr ((FrW.set 44 F _ (by decide) (by omega) (by omega)).tr (FrW.set 45 F _ (by decide) (by omega) (by omega)))).tok hT) (.inl e) hQ1 4 (by omega) (by omega) (by omega)) (px_fitS (by omega)) rfl rfl rfl (Nat.le_of_ble_eq_true rfl) (fun r9 W9 hp9 hl9 => ?_)
      obtain ⟨v2, rfl, hc2, hP2, rfl⟩ := hp9
      have h40_2 : v2 40 = nI (F + 1) := (hc2 40 (by decide)).trans rfl
      have hx142 : ¬ v2 13 ≤ 0 := by rw [hP2.2.1]; exact Int32.not_le.mpr (n1_pos (by have := hP2.1; omega) (by have := hP2.1; omega))
      refine XG.blk tX9_tellLaw_ok 78 2 (pc' := 152) (pl' := [some (.ref 0), some (.int (nI k)), some (.int (nI F)), some (.int (nI 0))]) (st' := [(.int (v2 13))]) (W1 := (mW v2 (va_up (va_up (va_up a 41 (upd (a 41) F (nI 0))) 44 (upd (a 44) F (v1 46))) 45 (upd (a 45) F (v1 46))) b)) (bs := []) rfl rfl rfl ?_
      refine XG.br eX9_tellLaw_152 (P := (v2 13) ≤ 0) (r := []) rfl (tgt := 156) (by decide) (fun h152 => ?_) (fun h152 => ?_)
      · exfalso
        first | exact h16 hx13 | exact hx13 h16 | exact hx142 h152
      · skip
        refine XS.vret eX9_tellLaw_155 rfl ?_
        exact ⟨_, _, b, rfl, FrW.R ((ha.tr (FrW.set 41 F _ (by decide) (by omega) (by omega))).tr ((FrW.set 44 F _ (by decide) (by omega) (by omega)).tr (FrW.set 45 F _ (by decide) (by omega) (by omega)))) hF hQ (chgL (chgL hv hc1 (fun _ _ => rfl)) hc2 (upL (by decide))), hP2, rfl⟩
    · exfalso
      have h16 := Decidable.not_not.mp h16
      first | exact h16 hx13 | exact hx13 h16 | exact hx142 h152
  | inr t1 =>
    have hp := advN_inr hr.symm ht0
    have h : PVr K (.inr (t1, w)) v := h
    refine XG.blk tX9_tellLaw_ok 0 2 (pc' := 2) (pl' := [some (.ref 0), some (.int (nI k)), none, none]) (st' := [(.int (nI 5)), (.ref 0)]) (W1 := (mW v a b)) (bs := []) rfl rfl rfl ?_
    refine XG.callV0 eX9_tellLaw_2 kl_X9_277 (con_must (d - 1) v a b K hT _ h 5 (by omega) (by omega) (by omega)) (px_fitS (by omega)) rfl rfl rfl (Nat.le_of_ble_eq_true rfl) (fun r9 W9 hp9 hl9 => ?_)
    obtain ⟨v1, rfl, hc1, hP1, rfl⟩ := hp9
    have g40 : v1 40 = nI F := (hc1 40 (by decide)).trans h40
    show XG _ (px_gS d (fun q W' => ∃ v' a' b', W' = mW v' a' b' ∧ FrR sd v v' a a' b b' ∧ RQ K sd (bd (mstN K 5 t1) _) v' a' b' ∧ q = none)) _ _ _ _ _ _
    cases hm : mstN K 5 t1 with
    | inl e =>
      have hP1 : PVr K (.inl e) v1 := by
        have h9 : PVr K (mstS K 5 (t1, w)) v1 := hP1
        rw [mstS_N, hm] at h9
        exact h9
      have hx13 : ¬ v1 13 = 0 := by rw [hP1.2.1]; exact nI_nz (by have := hP1.1; omega) (by have := hP1.1; omega)
      have q1 : (v1 40) = (nI F) := g40
      refine XG.blk tX9_tellLaw_ok 3 7 (pc' := 16) (pl' := [some (.ref 0), some (.int (nI k)), some (.int (v1 40)), some (.int (nI 0))]) (st' := [(.int (v1 13))]) (W1 := (mW v1 a b)) (bs := []) rfl rfl rfl ?_
      simp only [q1]
      refine XG.br eX9_tellLaw_16 (P := ¬ (v1 13) = 0) (r := []) rfl (tgt := 129) (by decide) (fun h16 => ?_) (fun h16 => ?_)
      · skip
        have q2 : (v1 40) = (nI F) := g40
        have q3 : (nI F).toNatClampNeg = F := nI_clamp (by omega)
        have q4 : (vp_nar .boolean (nI 0)) = (nI 0) := by decide
        refine XG.blk tX9_tellLaw_ok 67 7 (pc' := 140) (pl' := [some (.ref 0), some (.int (nI k)), some (.int (nI F)), some (.int (nI 0))]) (st' := [(.ref 0)]) (W1 := (mW v1 (va_up a 41 (upd (a 41) (v1 40).toNatClampNeg (vp_nar .boolean (nI 0)))) b)) (bs := [px_vb (v1 40) 260]) rfl rfl (by (try simp only [q2, q3, q4]); exact (px_all (px_vbN (by omega) (by decide)) rfl)) ?_
        simp only [q2, q3, q4]
        refine XG.callV0 eX9_tellLaw_140 kl_X9_311 (con_termX (d - 1) v1 (va_up a 41 (upd (a 41) F (nI 0))) b K e hP1 F g40 (by omega) (by omega)) (px_fitS (by omega)) rfl rfl rfl (Nat.le_of_ble_eq_true rfl) (fun r9 W9 hp9 hl9 => ?_)
        obtain ⟨rfl, rfl⟩ := hp9
        refine XG.blk tX9_tellLaw_ok 75 2 (pc' := 145) (pl' := [some (.ref 0), some (.int (nI k)), some (.int (nI F)), some (.int (nI 0))]) (st' := [(.int (nI 4)), (.ref 0)]) (W1 := (mW (va_up v1 40 (nI (F + 1))) (va_up (va_up (va_up a 41 (upd (a 41) F (nI 0))) 44 (upd (a 44) F (v1 46))) 45 (upd (a 45) F (v1 46))) b)) (bs := []) rfl rfl rfl ?_
        have hQ1 := PVr.v5 (v' := (va_up v1 40 (nI (F + 1)))) hP1 rfl rfl rfl rfl rfl
        refine XG.callV0 eX9_tellLaw_145 kl_X9_277 (con_must (d - 1) (va_up v1 40 (nI (F + 1))) (va_up (va_up (va_up a 41 (upd (a 41) F (nI 0))) 44 (upd (a 44) F (v1 46))) 45 (upd (a 45) F (v1 46))) b K (((ha.tr (FrW.set 41 F _ (by decide) (by omega) (by omega))).tr ((FrW.set 44 F _ (by decide) (by omega) (by omega)).tr (FrW.set 45 F _ (by decide) (by omega) (by omega)))).tok hT) (.inl e) hQ1 4 (by omega) (by omega) (by omega)) (px_fitS (by omega)) rfl rfl rfl (Nat.le_of_ble_eq_true rfl) (fun r9 W9 hp9 hl9 => ?_)
        obtain ⟨v31, rfl, hc31, hP31, rfl⟩ := hp9
        have h40_31 : v31 40 = nI (F + 1) := (hc31 40 (by decide)).trans rfl
        have hx142 : ¬ v31 13 ≤ 0 := by rw [hP31.2.1]; exact Int32.not_le.mpr (n1_pos (by have := hP31.1; omega) (by have := hP31.1; omega))
        refine XG.blk tX9_tellLaw_ok 78 2 (pc' := 152) (pl' := [some (.ref 0), some (.int (nI k)), some (.int (nI F)), some (.int (nI 0))]) (st' := [(.int (v31 13))]) (W1 := (mW v31 (va_up (va_up (va_up a 41 (upd (a 41) F (nI 0))) 44 (upd (a 44) F (v1 46))) 45 (upd (a 45) F (v1 46))) b)) (bs := []) rfl rfl rfl ?_
        refine XG.br eX9_tellLaw_152 (P := (v31 13) ≤ 0) (r := []) rfl (tgt := 156) (by decide) (fun h152 => ?_) (fun h152 => ?_)
        · exfalso
          first | exact h16 hx13 | exact hx13 h16 | exact hx142 h152
        · skip
          refine XS.vret eX9_tellLaw_155 rfl ?_
          exact ⟨_, _, b, rfl, FrW.R ((ha.tr (FrW.set 41 F _ (by decide) (by omega) (by omega))).tr ((FrW.set 44 F _ (by decide) (by omega) (by omega)).tr (FrW.set 45 F _ (by decide) (by omega) (by omega)))) hF hQ (chgL (chgL hv hc1 (fun _ _ => rfl)) hc31 (upL (by decide))), hP31, rfl⟩
      · exfalso
        have h16 := Decidable.not_not.mp h16
        first | exact h16 hx13 | exact hx13 h16 | exact hx142 h152
    | inr t2 =>
      have hP1 : PVr K (.inr (t2, w)) v1 := by
        have h9 : PVr K (mstS K 5 (t1, w)) v1 := hP1
        rw [mstS_N, hm] at h9
        exact h9
      have hm2 := mstN_inr hm
      have q5 : (v1 40) = (nI F) := g40
      refine XG.blk tX9_tellLaw_ok 3 5 (pc' := 12) (pl' := [some (.ref 0), some (.int (nI k)), some (.int (v1 40)), some (.int (nI 0))]) (st' := []) (W1 := (mW v1 a b)) (bs := []) rfl rfl rfl ?_
      simp only [q5]
      exact law_go d (by omega) b K k F Q sd hsd2 hk hF hQ v a hT hsd w _ S (fun t' B' Q' bs v' a' q1 q2 q3 q4 q5 q6 q7 q8 q9 q10 q11 q12 => RD.law hR hk hsd2 ht0 h40 h46 (by omega) (by omega) q1 q2 q3 q4 q5 q6 q7 q8 q9 q10 q11 q12) 4 (Nat.le_refl _) t2 [] v1 a Q rfl hP1 ((hc1 12 (by decide)).trans h12) g40 ((hc1 46 (by decide)).trans h46) (Nat.le_refl _) (by omega) (by show 4 * (F + 0) + 2 ≤ _; omega) (fun i br hi => by cases hi) (hc1.mono (by decide)) ha
