/-! THE CLASS: parseTell -/
theorem te_20 {K : TKS} {s : PT} {S : SD} (hk : K.1 s.1 = 20) : tellS K (s, S) = tNum K 23 1 5 (s, S) := by
  unfold tellS; rw [show K.1 (s, S).1.1 = 20 from hk]; rfl
theorem te_21 {K : TKS} {s : PT} {S : SD} (hk : K.1 s.1 = 21) : tellS K (s, S) = tSlp K (s, S) := by
  unfold tellS; rw [show K.1 (s, S).1.1 = 21 from hk]; rfl
theorem te_22 {K : TKS} {s : PT} {S : SD} (hk : K.1 s.1 = 22) : tellS K (s, S) = tPr K (s, S) := by
  unfold tellS; rw [show K.1 (s, S).1.1 = 22 from hk]; rfl
theorem te_23 {K : TKS} {s : PT} {S : SD} (hk : K.1 s.1 = 23) : tellS K (s, S) = tCrs K (s, S) := by
  unfold tellS; rw [show K.1 (s, S).1.1 = 23 from hk]; rfl
theorem te_27 {K : TKS} {s : PT} {S : SD} (hk : K.1 s.1 = 27) : tellS K (s, S) = tNum K 35 0 99 (s, S) := by
  unfold tellS; rw [show K.1 (s, S).1.1 = 27 from hk]; rfl
theorem te_28 {K : TKS} {s : PT} {S : SD} (hk : K.1 s.1 = 28) : tellS K (s, S) = tNum K 36 0 99 (s, S) := by
  unfold tellS; rw [show K.1 (s, S).1.1 = 28 from hk]; rfl
theorem te_29 {K : TKS} {s : PT} {S : SD} (hk : K.1 s.1 = 29) : tellS K (s, S) = tNum K 37 0 9999 (s, S) := by
  unfold tellS; rw [show K.1 (s, S).1.1 = 29 from hk]; rfl
theorem te_l {K : TKS} {s : PT} {S : SD} (h : 24 ≤ K.1 s.1 ∧ K.1 s.1 ≤ 26) : tellS K (s, S) = tLaw K (K.1 s.1 - 24) (s, S) := by
  unfold tellS
  show (if K.1 s.1 = 20 then _ else if K.1 s.1 = 21 then _ else if K.1 s.1 = 22 then _ else if K.1 s.1 = 23 then _ else if K.1 s.1 = 27 then _ else if K.1 s.1 = 28 then _ else if K.1 s.1 = 29 then _ else if 24 ≤ K.1 s.1 ∧ K.1 s.1 ≤ 26 then _ else _) = _
  rw [if_neg (by omega), if_neg (by omega), if_neg (by omega), if_neg (by omega), if_neg (by omega), if_neg (by omega), if_neg (by omega), if_pos h]
theorem te_F {K : TKS} {s : PT} {S : SD} (h : ¬ (20 ≤ K.1 s.1 ∧ K.1 s.1 ≤ 29)) : tellS K (s, S) = bd (bd (.inl (1, s.1)) (fun s9 => .inr (s9, S))) (tk4 K) := by
  unfold tellS
  show (if K.1 s.1 = 20 then _ else if K.1 s.1 = 21 then _ else if K.1 s.1 = 22 then _ else if K.1 s.1 = 23 then _ else if K.1 s.1 = 27 then _ else if K.1 s.1 = 28 then _ else if K.1 s.1 = 29 then _ else if 24 ≤ K.1 s.1 ∧ K.1 s.1 ≤ 26 then _ else _) = _
  rw [if_neg (by omega), if_neg (by omega), if_neg (by omega), if_neg (by omega), if_neg (by omega), if_neg (by omega), if_neg (by omega), if_neg (by omega)]
  rfl
theorem ck_20 {k : Nat} (h : vk k) : (128 ≤ ck k ∧ ck k ≤ 137 ↔ 20 ≤ k ∧ k ≤ 29) := by
  have : ∀ k : Fin 42, (128 ≤ ck k.val ∧ ck k.val ≤ 137 ↔ 20 ≤ k.val ∧ k.val ≤ 29) := by decide +kernel
  exact this ⟨k, by unfold vk at h; omega⟩
set_option maxHeartbeats 1000000 in
theorem ct_slp (d : Nat) (rv : Nat → Int32) (ra : Nat → Nat → Int32) (rb : Nat → Nat → Int64) (tv : Nat → Int32) (ta : Nat → Nat → Int32) (tb : Nat → Nat → Int64) (K : TKS) (hT : CTk K ra rb) (s : PT) (hP : PVc K (.inr s) rv) (S : SD) (hR : RDc S s.1 tv ta tb) (hk : K.1 s.1 = 21) (hd : 23 ≤ d) : Con mX3_parseTell d [.ref 0] (dW rv ra rb (.ref 6) (xW tv ta tb)) (fun q W' => ∃ rv' tv' ta' tb', W' = dW rv' ra rb (.ref 6) (xW tv' ta' tb') ∧ chg [1, 8, 9, 10, 11] rv rv' ∧ RQc K (tellS K (s, S)) rv' tv' ta' tb' ∧ q = none) := by
  have hs4 := hP.1
  have hK := hT s.1 hP.1 hP.2.2.2.1
  have hkk : ((ra 4) s.1) = nI 129 := by rw [hK.1, hk]; rfl
  refine Con.of (by decide) (Nat.le_of_ble_eq_true rfl) ?_
  have q1 : (rv 8) = (nI s.1) := hP.2.1
  have q2 : (nI s.1).toNatClampNeg = s.1 := nI_clamp (by omega)
  have q3 : ((ra 4) s.1) = (nI 129) := hkk
  refine XG.blk tX3_parseTell_ok 0 8 (pc' := 14) (pl' := [some (.ref 0), some (.int ((ra 4) (rv 8).toNatClampNeg))]) (st' := [(.int (nI 129)), (.int ((ra 4) (rv 8).toNatClampNeg))]) (W1 := (dW rv ra rb (.ref 6) (xW tv ta tb))) (bs := [px_vb (rv 8) 402]) rfl rfl (by (try simp only [q1, q2, q3]); exact (px_all (px_vbN (by omega) (by decide)) rfl)) ?_
  simp only [q1, q2, q3]
  refine XG.br eX3_parseTell_14 (P := ¬ (nI 129) = (nI 129)) (r := []) rfl (tgt := 24) (by decide) (fun h14 => ?_) (fun h14 => ?_)
  · exfalso
    have g14 : ¬ 129 = 129 := (fun z_9 => h14 ((nI_eq (a := 129) (b := 129) (by omega) (by omega)).mpr z_9))
    omega
  · skip
    have h14 := Decidable.not_not.mp h14
    have g14 : 129 = 129 := (nI_eq (a := 129) (b := 129) (by omega) (by omega)).mp h14
    refine XG.blk tX3_parseTell_ok 9 1 (pc' := 18) (pl' := [some (.ref 0), some (.int (nI 129))]) (st' := [(.ref 0)]) (W1 := (dW rv ra rb (.ref 6) (xW tv ta tb))) (bs := []) rfl rfl rfl ?_
    refine XG.callV0 eX3_parseTell_18 kl_X3_114 (cc_parseSleeper (d - 1) rv ra rb tv ta tb K hT s hP S hR hk (by omega)) (px_fitS (by omega)) rfl rfl rfl (Nat.le_of_ble_eq_true rfl) (fun r9 W9 hp9 hl9 => ?_)
    obtain ⟨rv1, tv1, ta1, tb1, rfl, hc1, hR1, rfl⟩ := hp9
    have hQ1 := hR1.tp
    show XG _ _ _ _ _ _ [] (dW rv1 ra rb (.ref 6) (xW tv1 ta1 tb1))
    refine XG.goto eX3_parseTell_21 (tgt := 79) (by decide) ?_
    refine XG.blk tX3_parseTell_ok 37 2 (pc' := 82) (pl' := [some (.ref 0), some (.int (nI 129))]) (st' := [(.int (nI 59)), (.ref 0)]) (W1 := (dW rv1 ra rb (.ref 6) (xW tv1 ta1 tb1))) (bs := []) rfl rfl rfl ?_
    refine XG.callV0 eX3_parseTell_82 kl_X3_130 (cc_take (d - 1) rv1 ra rb (.ref 6) (xW tv1 ta1 tb1) K hT (prs (bd (if S.1 24 = 6 then .inl (2, s.1) else (bd (bd (bd (bd (bd (advS s) (nameS K S.2.2.1)) (bndS K 0 99)) (bndS K 0 9)) (bndS K 0 9)) (bndS K 0 4))) (fun s9 => .inr (s9, (va_up S.1 24 (S.1 24 + 1), up2 (up2 (up2 (up2 S.2.1 25 (S.1 24) (K.2.2.1 (s.1 + 1 + 1))) 26 (S.1 24) (K.2.2.1 (s.1 + 1 + 2))) 27 (S.1 24) (K.2.2.1 (s.1 + 1 + 3))) 28 (S.1 24) (K.2.2.1 (s.1 + 1 + 4)), S.2.2.1 ++ [(K.2.2.2 (s.1 + 1), some (S.1 24))], S.2.2.2))))) hQ1.1 4 (by unfold vk; omega) (by decide)) (px_fitS (by omega)) rfl rfl rfl (Nat.le_of_ble_eq_true rfl) (fun r9 W9 hp9 hl9 => ?_)
    obtain ⟨rv2, rfl, hc2, hP2, rfl⟩ := hp9
    show XG _ _ _ _ _ _ [] (dW rv2 ra rb (.ref 6) (xW tv1 ta1 tb1))
    refine XS.vret eX3_parseTell_85 rfl ?_
    refine ⟨_, _, _, _, rfl, hc1.tr (hc2.mono (by decide)), ?_, rfl⟩
    rw [te_21 hk, tl_slp]
    exact (hQ1.tk hP2).rq
set_option maxHeartbeats 1000000 in
theorem ct_pr (d : Nat) (rv : Nat → Int32) (ra : Nat → Nat → Int32) (rb : Nat → Nat → Int64) (tv : Nat → Int32) (ta : Nat → Nat → Int32) (tb : Nat → Nat → Int64) (K : TKS) (hT : CTk K ra rb) (s : PT) (hP : PVc K (.inr s) rv) (S : SD) (hR : RDc S s.1 tv ta tb) (hk : K.1 s.1 = 22) (hd : 23 ≤ d) : Con mX3_parseTell d [.ref 0] (dW rv ra rb (.ref 6) (xW tv ta tb)) (fun q W' => ∃ rv' tv' ta' tb', W' = dW rv' ra rb (.ref 6) (xW tv' ta' tb') ∧ chg [1, 8, 9, 10, 11] rv rv' ∧ RQc K (tellS K (s, S)) rv' tv' ta' tb' ∧ q = none) := by
  have hs4 := hP.1
  have hK := hT s.1 hP.1 hP.2.2.2.1
  have hkk : ((ra 4) s.1) = nI 130 := by rw [hK.1, hk]; rfl
  refine Con.of (by decide) (Nat.le_of_ble_eq_true rfl) ?_
  have q1 : (rv 8) = (nI s.1) := hP.2.1
  have q2 : (nI s.1).toNatClampNeg = s.1 := nI_clamp (by omega)
  have q3 : ((ra 4) s.1) = (nI 130) := hkk
  refine XG.blk tX3_parseTell_ok 0 8 (pc' := 14) (pl' := [some (.ref 0), some (.int ((ra 4) (rv 8).toNatClampNeg))]) (st' := [(.int (nI 129)), (.int ((ra 4) (rv 8).toNatClampNeg))]) (W1 := (dW rv ra rb (.ref 6) (xW tv ta tb))) (bs := [px_vb (rv 8) 402]) rfl rfl (by (try simp only [q1, q2, q3]); exact (px_all (px_vbN (by omega) (by decide)) rfl)) ?_
  simp only [q1, q2, q3]
  refine XG.br eX3_parseTell_14 (P := ¬ (nI 130) = (nI 129)) (r := []) rfl (tgt := 24) (by decide) (fun h14 => ?_) (fun h14 => ?_)
  · skip
    have g14 : ¬ 130 = 129 := (fun z_9 => h14 ((nI_eq (a := 130) (b := 129) (by omega) (by omega)).mpr z_9))
    refine XG.blk tX3_parseTell_ok 12 2 (pc' := 28) (pl' := [some (.ref 0), some (.int (nI 130))]) (st' := [(.int (nI 130)), (.int (nI 130))]) (W1 := (dW rv ra rb (.ref 6) (xW tv ta tb))) (bs := []) rfl rfl rfl ?_
    refine XG.br eX3_parseTell_28 (P := ¬ (nI 130) = (nI 130)) (r := []) rfl (tgt := 38) (by decide) (fun h28 => ?_) (fun h28 => ?_)
    · exfalso
      have g28 : ¬ 130 = 130 := (fun z_9 => h28 ((nI_eq (a := 130) (b := 130) (by omega) (by omega)).mpr z_9))
      omega
    · skip
      have h28 := Decidable.not_not.mp h28
      have g28 : 130 = 130 := (nI_eq (a := 130) (b := 130) (by omega) (by omega)).mp h28
      refine XG.blk tX3_parseTell_ok 15 1 (pc' := 32) (pl' := [some (.ref 0), some (.int (nI 130))]) (st' := [(.ref 0)]) (W1 := (dW rv ra rb (.ref 6) (xW tv ta tb))) (bs := []) rfl rfl rfl ?_
      refine XG.callV0 eX3_parseTell_32 kl_X3_117 (cc_parsePair (d - 1) rv ra rb tv ta tb K hT s hP S hR hk (by omega)) (px_fitS (by omega)) rfl rfl rfl (Nat.le_of_ble_eq_true rfl) (fun r9 W9 hp9 hl9 => ?_)
      obtain ⟨rv1, tv1, ta1, tb1, rfl, hc1, hR1, rfl⟩ := hp9
      have hQ1 := hR1.tp
      show XG _ _ _ _ _ _ [] (dW rv1 ra rb (.ref 6) (xW tv1 ta1 tb1))
      refine XG.goto eX3_parseTell_35 (tgt := 79) (by decide) ?_
      refine XG.blk tX3_parseTell_ok 37 2 (pc' := 82) (pl' := [some (.ref 0), some (.int (nI 130))]) (st' := [(.int (nI 59)), (.ref 0)]) (W1 := (dW rv1 ra rb (.ref 6) (xW tv1 ta1 tb1))) (bs := []) rfl rfl rfl ?_
      refine XG.callV0 eX3_parseTell_82 kl_X3_130 (cc_take (d - 1) rv1 ra rb (.ref 6) (xW tv1 ta1 tb1) K hT (prs (bd (if S.1 30 = 6 then .inl (2, s.1) else pairR K S s) (fun s9 => .inr (s9, pairS K S s)))) hQ1.1 4 (by unfold vk; omega) (by decide)) (px_fitS (by omega)) rfl rfl rfl (Nat.le_of_ble_eq_true rfl) (fun r9 W9 hp9 hl9 => ?_)
      obtain ⟨rv2, rfl, hc2, hP2, rfl⟩ := hp9
      show XG _ _ _ _ _ _ [] (dW rv2 ra rb (.ref 6) (xW tv1 ta1 tb1))
      refine XS.vret eX3_parseTell_85 rfl ?_
      refine ⟨_, _, _, _, rfl, hc1.tr (hc2.mono (by decide)), ?_, rfl⟩
      rw [te_22 hk, tl_pr]
      exact (hQ1.tk hP2).rq
  · exfalso
    have h14 := Decidable.not_not.mp h14
    have g14 : 130 = 129 := (nI_eq (a := 130) (b := 129) (by omega) (by omega)).mp h14
    omega
set_option maxHeartbeats 1000000 in
theorem ct_crs (d : Nat) (rv : Nat → Int32) (ra : Nat → Nat → Int32) (rb : Nat → Nat → Int64) (tv : Nat → Int32) (ta : Nat → Nat → Int32) (tb : Nat → Nat → Int64) (K : TKS) (hT : CTk K ra rb) (s : PT) (hP : PVc K (.inr s) rv) (S : SD) (hR : RDc S s.1 tv ta tb) (hk : K.1 s.1 = 23) (hd : 23 ≤ d) : Con mX3_parseTell d [.ref 0] (dW rv ra rb (.ref 6) (xW tv ta tb)) (fun q W' => ∃ rv' tv' ta' tb', W' = dW rv' ra rb (.ref 6) (xW tv' ta' tb') ∧ chg [1, 8, 9, 10, 11] rv rv' ∧ RQc K (tellS K (s, S)) rv' tv' ta' tb' ∧ q = none) := by
  have hs4 := hP.1
  have hK := hT s.1 hP.1 hP.2.2.2.1
  have hkk : ((ra 4) s.1) = nI 131 := by rw [hK.1, hk]; rfl
  refine Con.of (by decide) (Nat.le_of_ble_eq_true rfl) ?_
  have q1 : (rv 8) = (nI s.1) := hP.2.1
  have q2 : (nI s.1).toNatClampNeg = s.1 := nI_clamp (by omega)
  have q3 : ((ra 4) s.1) = (nI 131) := hkk
  refine XG.blk tX3_parseTell_ok 0 8 (pc' := 14) (pl' := [some (.ref 0), some (.int ((ra 4) (rv 8).toNatClampNeg))]) (st' := [(.int (nI 129)), (.int ((ra 4) (rv 8).toNatClampNeg))]) (W1 := (dW rv ra rb (.ref 6) (xW tv ta tb))) (bs := [px_vb (rv 8) 402]) rfl rfl (by (try simp only [q1, q2, q3]); exact (px_all (px_vbN (by omega) (by decide)) rfl)) ?_
  simp only [q1, q2, q3]
  refine XG.br eX3_parseTell_14 (P := ¬ (nI 131) = (nI 129)) (r := []) rfl (tgt := 24) (by decide) (fun h14 => ?_) (fun h14 => ?_)
  · skip
    have g14 : ¬ 131 = 129 := (fun z_9 => h14 ((nI_eq (a := 131) (b := 129) (by omega) (by omega)).mpr z_9))
    refine XG.blk tX3_parseTell_ok 12 2 (pc' := 28) (pl' := [some (.ref 0), some (.int (nI 131))]) (st' := [(.int (nI 130)), (.int (nI 131))]) (W1 := (dW rv ra rb (.ref 6) (xW tv ta tb))) (bs := []) rfl rfl rfl ?_
    refine XG.br eX3_parseTell_28 (P := ¬ (nI 131) = (nI 130)) (r := []) rfl (tgt := 38) (by decide) (fun h28 => ?_) (fun h28 => ?_)
    · skip
      have g28 : ¬ 131 = 130 := (fun z_9 => h28 ((nI_eq (a := 131) (b := 130) (by omega) (by omega)).mpr z_9))
      refine XG.blk tX3_parseTell_ok 18 2 (pc' := 42) (pl' := [some (.ref 0), some (.int (nI 131))]) (st' := [(.int (nI 131)), (.int (nI 131))]) (W1 := (dW rv ra rb (.ref 6) (xW tv ta tb))) (bs := []) rfl rfl rfl ?_
      refine XG.br eX3_parseTell_42 (P := ¬ (nI 131) = (nI 131)) (r := []) rfl (tgt := 52) (by decide) (fun h42 => ?_) (fun h42 => ?_)
      · exfalso
        have g42 : ¬ 131 = 131 := (fun z_9 => h42 ((nI_eq (a := 131) (b := 131) (by omega) (by omega)).mpr z_9))
        omega
      · skip
        have h42 := Decidable.not_not.mp h42
        have g42 : 131 = 131 := (nI_eq (a := 131) (b := 131) (by omega) (by omega)).mp h42
        refine XG.blk tX3_parseTell_ok 21 1 (pc' := 46) (pl' := [some (.ref 0), some (.int (nI 131))]) (st' := [(.ref 0)]) (W1 := (dW rv ra rb (.ref 6) (xW tv ta tb))) (bs := []) rfl rfl rfl ?_
        refine XG.callV0 eX3_parseTell_46 kl_X3_120 (cc_parseCrosser (d - 1) rv ra rb tv ta tb K hT s hP S hR hk (by omega)) (px_fitS (by omega)) rfl rfl rfl (Nat.le_of_ble_eq_true rfl) (fun r9 W9 hp9 hl9 => ?_)
        obtain ⟨rv1, tv1, ta1, tb1, rfl, hc1, hR1, rfl⟩ := hp9
        have hQ1 := hR1.tp
        show XG _ _ _ _ _ _ [] (dW rv1 ra rb (.ref 6) (xW tv1 ta1 tb1))
        refine XG.goto eX3_parseTell_49 (tgt := 79) (by decide) ?_
        refine XG.blk tX3_parseTell_ok 37 2 (pc' := 82) (pl' := [some (.ref 0), some (.int (nI 131))]) (st' := [(.int (nI 59)), (.ref 0)]) (W1 := (dW rv1 ra rb (.ref 6) (xW tv1 ta1 tb1))) (bs := []) rfl rfl rfl ?_
        refine XG.callV0 eX3_parseTell_82 kl_X3_130 (cc_take (d - 1) rv1 ra rb (.ref 6) (xW tv1 ta1 tb1) K hT (prs (bd (if S.1 31 = 5 then .inl (2, s.1) else (bd (bd (bd (bd (advS s) (nameS K S.2.2.1)) (bndS K 0 99)) (bndS K 0 9)) (bndS K 0 99))) (fun s9 => .inr (s9, (va_up S.1 31 (S.1 31 + 1), up2 (up2 (up2 S.2.1 32 (S.1 31) (K.2.2.1 (s.1 + 1 + 1))) 33 (S.1 31) (K.2.2.1 (s.1 + 1 + 2))) 34 (S.1 31) (K.2.2.1 (s.1 + 1 + 3)), S.2.2.1 ++ [(K.2.2.2 (s.1 + 1), none)], S.2.2.2))))) hQ1.1 4 (by unfold vk; omega) (by decide)) (px_fitS (by omega)) rfl rfl rfl (Nat.le_of_ble_eq_true rfl) (fun r9 W9 hp9 hl9 => ?_)
        obtain ⟨rv2, rfl, hc2, hP2, rfl⟩ := hp9
        show XG _ _ _ _ _ _ [] (dW rv2 ra rb (.ref 6) (xW tv1 ta1 tb1))
        refine XS.vret eX3_parseTell_85 rfl ?_
        refine ⟨_, _, _, _, rfl, hc1.tr (hc2.mono (by decide)), ?_, rfl⟩
        rw [te_23 hk, tl_crs]
        exact (hQ1.tk hP2).rq
    · exfalso
      have h28 := Decidable.not_not.mp h28
      have g28 : 131 = 130 := (nI_eq (a := 131) (b := 130) (by omega) (by omega)).mp h28
      omega
  · exfalso
    have h14 := Decidable.not_not.mp h14
    have g14 : 131 = 129 := (nI_eq (a := 131) (b := 129) (by omega) (by omega)).mp h14
    omega
set_option maxHeartbeats 1000000 in
theorem ct_n20 (d : Nat) (rv : Nat → Int32) (ra : Nat → Nat → Int32) (rb : Nat → Nat → Int64) (tv : Nat → Int32) (ta : Nat → Nat → Int32) (tb : Nat → Nat → Int64) (K : TKS) (hT : CTk K ra rb) (s : PT) (hP : PVc K (.inr s) rv) (S : SD) (hR : RDc S s.1 tv ta tb) (hk : K.1 s.1 = 20) (hd : 23 ≤ d) : Con mX3_parseTell d [.ref 0] (dW rv ra rb (.ref 6) (xW tv ta tb)) (fun q W' => ∃ rv' tv' ta' tb', W' = dW rv' ra rb (.ref 6) (xW tv' ta' tb') ∧ chg [1, 8, 9, 10, 11] rv rv' ∧ RQc K (tellS K (s, S)) rv' tv' ta' tb' ∧ q = none) := by
  have hs4 := hP.1
  have hK := hT s.1 hP.1 hP.2.2.2.1
  have hkk : ((ra 4) s.1) = nI 128 := by rw [hK.1, hk]; rfl
  refine Con.of (by decide) (Nat.le_of_ble_eq_true rfl) ?_
  have q1 : (rv 8) = (nI s.1) := hP.2.1
  have q2 : (nI s.1).toNatClampNeg = s.1 := nI_clamp (by omega)
  have q3 : ((ra 4) s.1) = (nI 128) := hkk
  refine XG.blk tX3_parseTell_ok 0 8 (pc' := 14) (pl' := [some (.ref 0), some (.int ((ra 4) (rv 8).toNatClampNeg))]) (st' := [(.int (nI 129)), (.int ((ra 4) (rv 8).toNatClampNeg))]) (W1 := (dW rv ra rb (.ref 6) (xW tv ta tb))) (bs := [px_vb (rv 8) 402]) rfl rfl (by (try simp only [q1, q2, q3]); exact (px_all (px_vbN (by omega) (by decide)) rfl)) ?_
  simp only [q1, q2, q3]
  refine XG.br eX3_parseTell_14 (P := ¬ (nI 128) = (nI 129)) (r := []) rfl (tgt := 24) (by decide) (fun h14 => ?_) (fun h14 => ?_)
  · skip
    have g14 : ¬ 128 = 129 := (fun z_9 => h14 ((nI_eq (a := 128) (b := 129) (by omega) (by omega)).mpr z_9))
    refine XG.blk tX3_parseTell_ok 12 2 (pc' := 28) (pl' := [some (.ref 0), some (.int (nI 128))]) (st' := [(.int (nI 130)), (.int (nI 128))]) (W1 := (dW rv ra rb (.ref 6) (xW tv ta tb))) (bs := []) rfl rfl rfl ?_
    refine XG.br eX3_parseTell_28 (P := ¬ (nI 128) = (nI 130)) (r := []) rfl (tgt := 38) (by decide) (fun h28 => ?_) (fun h28 => ?_)
    · skip
      have g28 : ¬ 128 = 130 := (fun z_9 => h28 ((nI_eq (a := 128) (b := 130) (by omega) (by omega)).mpr z_9))
      refine XG.blk tX3_parseTell_ok 18 2 (pc' := 42) (pl' := [some (.ref 0), some (.int (nI 128))]) (st' := [(.int (nI 131)), (.int (nI 128))]) (W1 := (dW rv ra rb (.ref 6) (xW tv ta tb))) (bs := []) rfl rfl rfl ?_
      refine XG.br eX3_parseTell_42 (P := ¬ (nI 128) = (nI 131)) (r := []) rfl (tgt := 52) (by decide) (fun h42 => ?_) (fun h42 => ?_)
      · skip
        have g42 : ¬ 128 = 131 := (fun z_9 => h42 ((nI_eq (a := 128) (b := 131) (by omega) (by omega)).mpr z_9))
        refine XG.blk tX3_parseTell_ok 24 2 (pc' := 56) (pl' := [some (.ref 0), some (.int (nI 128))]) (st' := [(.int (nI 132)), (.int (nI 128))]) (W1 := (dW rv ra rb (.ref 6) (xW tv ta tb))) (bs := []) rfl rfl rfl ?_
        refine XG.br eX3_parseTell_56 (P := (nI 128) < (nI 132)) (r := []) rfl (tgt := 74) (by decide) (fun h56 => ?_) (fun h56 => ?_)
        · skip
          have g56 : 128 < 132 := (nI_ltI (a := 128) (b := 132) (by omega) (by omega)).mp h56
          refine XG.blk tX3_parseTell_ok 34 2 (pc' := 76) (pl' := [some (.ref 0), some (.int (nI 128))]) (st' := [(.int (nI 128)), (.ref 0)]) (W1 := (dW rv ra rb (.ref 6) (xW tv ta tb))) (bs := []) rfl rfl rfl ?_
          refine XG.callV0 eX3_parseTell_76 kl_X3_127 (cc_num20 (d - 1) rv ra rb tv ta tb K hT s hP S hR hk (by omega)) (px_fitS (by omega)) rfl rfl rfl (Nat.le_of_ble_eq_true rfl) (fun r9 W9 hp9 hl9 => ?_)
          obtain ⟨rv1, tv1, ta1, tb1, rfl, hc1, hR1, rfl⟩ := hp9
          have hQ1 := hR1.tp
          show XG _ _ _ _ _ _ [] (dW rv1 ra rb (.ref 6) (xW tv1 ta1 tb1))
          refine XG.blk tX3_parseTell_ok 37 2 (pc' := 82) (pl' := [some (.ref 0), some (.int (nI 128))]) (st' := [(.int (nI 59)), (.ref 0)]) (W1 := (dW rv1 ra rb (.ref 6) (xW tv1 ta1 tb1))) (bs := []) rfl rfl rfl ?_
          refine XG.callV0 eX3_parseTell_82 kl_X3_130 (cc_take (d - 1) rv1 ra rb (.ref 6) (xW tv1 ta1 tb1) K hT (prs (bd (bd (advS s) (bndS K 1 5)) (fun s9 => .inr (s9, (va_up S.1 23 (K.2.2.1 (s.1 + 1)), S.2))))) hQ1.1 4 (by unfold vk; omega) (by decide)) (px_fitS (by omega)) rfl rfl rfl (Nat.le_of_ble_eq_true rfl) (fun r9 W9 hp9 hl9 => ?_)
          obtain ⟨rv2, rfl, hc2, hP2, rfl⟩ := hp9
          show XG _ _ _ _ _ _ [] (dW rv2 ra rb (.ref 6) (xW tv1 ta1 tb1))
          refine XS.vret eX3_parseTell_85 rfl ?_
          refine ⟨_, _, _, _, rfl, hc1.tr (hc2.mono (by decide)), ?_, rfl⟩
          rw [te_20 hk, tl_num]
          exact (hQ1.tk hP2).rq
        · exfalso
          have g56 : ¬ 128 < 132 := (fun z_9 => h56 ((nI_ltI (a := 128) (b := 132) (by omega) (by omega)).mpr z_9))
          omega
      · exfalso
        have h42 := Decidable.not_not.mp h42
        have g42 : 128 = 131 := (nI_eq (a := 128) (b := 131) (by omega) (by omega)).mp h42
        omega
    · exfalso
      have h28 := Decidable.not_not.mp h28
      have g28 : 128 = 130 := (nI_eq (a := 128) (b := 130) (by omega) (by omega)).mp h28
      omega
  · exfalso
    have h14 := Decidable.not_not.mp h14
    have g14 : 128 = 129 := (nI_eq (a := 128) (b := 129) (by omega) (by omega)).mp h14
    omega
set_option maxHeartbeats 1000000 in
theorem ct_n27 (d : Nat) (rv : Nat → Int32) (ra : Nat → Nat → Int32) (rb : Nat → Nat → Int64) (tv : Nat → Int32) (ta : Nat → Nat → Int32) (tb : Nat → Nat → Int64) (K : TKS) (hT : CTk K ra rb) (s : PT) (hP : PVc K (.inr s) rv) (S : SD) (hR : RDc S s.1 tv ta tb) (hk : K.1 s.1 = 27) (hd : 23 ≤ d) : Con mX3_parseTell d [.ref 0] (dW rv ra rb (.ref 6) (xW tv ta tb)) (fun q W' => ∃ rv' tv' ta' tb', W' = dW rv' ra rb (.ref 6) (xW tv' ta' tb') ∧ chg [1, 8, 9, 10, 11] rv rv' ∧ RQc K (tellS K (s, S)) rv' tv' ta' tb' ∧ q = none) := by
  have hs4 := hP.1
  have hK := hT s.1 hP.1 hP.2.2.2.1
  have hkk : ((ra 4) s.1) = nI 135 := by rw [hK.1, hk]; rfl
  refine Con.of (by decide) (Nat.le_of_ble_eq_true rfl) ?_
  have q1 : (rv 8) = (nI s.1) := hP.2.1
  have q2 : (nI s.1).toNatClampNeg = s.1 := nI_clamp (by omega)
  have q3 : ((ra 4) s.1) = (nI 135) := hkk
  refine XG.blk tX3_parseTell_ok 0 8 (pc' := 14) (pl' := [some (.ref 0), some (.int ((ra 4) (rv 8).toNatClampNeg))]) (st' := [(.int (nI 129)), (.int ((ra 4) (rv 8).toNatClampNeg))]) (W1 := (dW rv ra rb (.ref 6) (xW tv ta tb))) (bs := [px_vb (rv 8) 402]) rfl rfl (by (try simp only [q1, q2, q3]); exact (px_all (px_vbN (by omega) (by decide)) rfl)) ?_
  simp only [q1, q2, q3]
  refine XG.br eX3_parseTell_14 (P := ¬ (nI 135) = (nI 129)) (r := []) rfl (tgt := 24) (by decide) (fun h14 => ?_) (fun h14 => ?_)
  · skip
    have g14 : ¬ 135 = 129 := (fun z_9 => h14 ((nI_eq (a := 135) (b := 129) (by omega) (by omega)).mpr z_9))
    refine XG.blk tX3_parseTell_ok 12 2 (pc' := 28) (pl' := [some (.ref 0), some (.int (nI 135))]) (st' := [(.int (nI 130)), (.int (nI 135))]) (W1 := (dW rv ra rb (.ref 6) (xW tv ta tb))) (bs := []) rfl rfl rfl ?_
    refine XG.br eX3_parseTell_28 (P := ¬ (nI 135) = (nI 130)) (r := []) rfl (tgt := 38) (by decide) (fun h28 => ?_) (fun h28 => ?_)
    · skip
      have g28 : ¬ 135 = 130 := (fun z_9 => h28 ((nI_eq (a := 135) (b := 130) (by omega) (by omega)).mpr z_9))
      refine XG.blk tX3_parseTell_ok 18 2 (pc' := 42) (pl' := [some (.ref 0), some (.int (nI 135))]) (st' := [(.int (nI 131)), (.int (nI 135))]) (W1 := (dW rv ra rb (.ref 6) (xW tv ta tb))) (bs := []) rfl rfl rfl ?_
      refine XG.br eX3_parseTell_42 (P := ¬ (nI 135) = (nI 131)) (r := []) rfl (tgt := 52) (by decide) (fun h42 => ?_) (fun h42 => ?_)
      · skip
        have g42 : ¬ 135 = 131 := (fun z_9 => h42 ((nI_eq (a := 135) (b := 131) (by omega) (by omega)).mpr z_9))
        refine XG.blk tX3_parseTell_ok 24 2 (pc' := 56) (pl' := [some (.ref 0), some (.int (nI 135))]) (st' := [(.int (nI 132)), (.int (nI 135))]) (W1 := (dW rv ra rb (.ref 6) (xW tv ta tb))) (bs := []) rfl rfl rfl ?_
        refine XG.br eX3_parseTell_56 (P := (nI 135) < (nI 132)) (r := []) rfl (tgt := 74) (by decide) (fun h56 => ?_) (fun h56 => ?_)
        · exfalso
          have g56 : 135 < 132 := (nI_ltI (a := 135) (b := 132) (by omega) (by omega)).mp h56
          omega
        · skip
          have g56 : ¬ 135 < 132 := (fun z_9 => h56 ((nI_ltI (a := 135) (b := 132) (by omega) (by omega)).mpr z_9))
          refine XG.blk tX3_parseTell_ok 27 2 (pc' := 63) (pl' := [some (.ref 0), some (.int (nI 135))]) (st' := [(.int (nI 134)), (.int (nI 135))]) (W1 := (dW rv ra rb (.ref 6) (xW tv ta tb))) (bs := []) rfl rfl rfl ?_
          refine XG.br eX3_parseTell_63 (P := (nI 134) < (nI 135)) (r := []) rfl (tgt := 74) (by decide) (fun h63 => ?_) (fun h63 => ?_)
          · skip
            have g63 : 134 < 135 := (nI_ltI (a := 134) (b := 135) (by omega) (by omega)).mp h63
            refine XG.blk tX3_parseTell_ok 34 2 (pc' := 76) (pl' := [some (.ref 0), some (.int (nI 135))]) (st' := [(.int (nI 135)), (.ref 0)]) (W1 := (dW rv ra rb (.ref 6) (xW tv ta tb))) (bs := []) rfl rfl rfl ?_
            refine XG.callV0 eX3_parseTell_76 kl_X3_127 (cc_num27 (d - 1) rv ra rb tv ta tb K hT s hP S hR hk (by omega)) (px_fitS (by omega)) rfl rfl rfl (Nat.le_of_ble_eq_true rfl) (fun r9 W9 hp9 hl9 => ?_)
            obtain ⟨rv1, tv1, ta1, tb1, rfl, hc1, hR1, rfl⟩ := hp9
            have hQ1 := hR1.tp
            show XG _ _ _ _ _ _ [] (dW rv1 ra rb (.ref 6) (xW tv1 ta1 tb1))
            refine XG.blk tX3_parseTell_ok 37 2 (pc' := 82) (pl' := [some (.ref 0), some (.int (nI 135))]) (st' := [(.int (nI 59)), (.ref 0)]) (W1 := (dW rv1 ra rb (.ref 6) (xW tv1 ta1 tb1))) (bs := []) rfl rfl rfl ?_
            refine XG.callV0 eX3_parseTell_82 kl_X3_130 (cc_take (d - 1) rv1 ra rb (.ref 6) (xW tv1 ta1 tb1) K hT (prs (bd (bd (advS s) (bndS K 0 99)) (fun s9 => .inr (s9, (va_up S.1 35 (K.2.2.1 (s.1 + 1)), S.2))))) hQ1.1 4 (by unfold vk; omega) (by decide)) (px_fitS (by omega)) rfl rfl rfl (Nat.le_of_ble_eq_true rfl) (fun r9 W9 hp9 hl9 => ?_)
            obtain ⟨rv2, rfl, hc2, hP2, rfl⟩ := hp9
            show XG _ _ _ _ _ _ [] (dW rv2 ra rb (.ref 6) (xW tv1 ta1 tb1))
            refine XS.vret eX3_parseTell_85 rfl ?_
            refine ⟨_, _, _, _, rfl, hc1.tr (hc2.mono (by decide)), ?_, rfl⟩
            rw [te_27 hk, tl_num]
            exact (hQ1.tk hP2).rq
          · exfalso
            have g63 : ¬ 134 < 135 := (fun z_9 => h63 ((nI_ltI (a := 134) (b := 135) (by omega) (by omega)).mpr z_9))
            omega
      · exfalso
        have h42 := Decidable.not_not.mp h42
        have g42 : 135 = 131 := (nI_eq (a := 135) (b := 131) (by omega) (by omega)).mp h42
        omega
    · exfalso
      have h28 := Decidable.not_not.mp h28
      have g28 : 135 = 130 := (nI_eq (a := 135) (b := 130) (by omega) (by omega)).mp h28
      omega
  · exfalso
    have h14 := Decidable.not_not.mp h14
    have g14 : 135 = 129 := (nI_eq (a := 135) (b := 129) (by omega) (by omega)).mp h14
    omega
set_option maxHeartbeats 1000000 in
theorem ct_n28 (d : Nat) (rv : Nat → Int32) (ra : Nat → Nat → Int32) (rb : Nat → Nat → Int64) (tv : Nat → Int32) (ta : Nat → Nat → Int32) (tb : Nat → Nat → Int64) (K : TKS) (hT : CTk K ra rb) (s : PT) (hP : PVc K (.inr s) rv) (S : SD) (hR : RDc S s.1 tv ta tb) (hk : K.1 s.1 = 28) (hd : 23 ≤ d) : Con mX3_parseTell d [.ref 0] (dW rv ra rb (.ref 6) (xW tv ta tb)) (fun q W' => ∃ rv' tv' ta' tb', W' = dW rv' ra rb (.ref 6) (xW tv' ta' tb') ∧ chg [1, 8, 9, 10, 11] rv rv' ∧ RQc K (tellS K (s, S)) rv' tv' ta' tb' ∧ q = none) := by
  have hs4 := hP.1
  have hK := hT s.1 hP.1 hP.2.2.2.1
  have hkk : ((ra 4) s.1) = nI 136 := by rw [hK.1, hk]; rfl
  refine Con.of (by decide) (Nat.le_of_ble_eq_true rfl) ?_
  have q1 : (rv 8) = (nI s.1) := hP.2.1
  have q2 : (nI s.1).toNatClampNeg = s.1 := nI_clamp (by omega)
  have q3 : ((ra 4) s.1) = (nI 136) := hkk
  refine XG.blk tX3_parseTell_ok 0 8 (pc' := 14) (pl' := [some (.ref 0), some (.int ((ra 4) (rv 8).toNatClampNeg))]) (st' := [(.int (nI 129)), (.int ((ra 4) (rv 8).toNatClampNeg))]) (W1 := (dW rv ra rb (.ref 6) (xW tv ta tb))) (bs := [px_vb (rv 8) 402]) rfl rfl (by (try simp only [q1, q2, q3]); exact (px_all (px_vbN (by omega) (by decide)) rfl)) ?_
  simp only [q1, q2, q3]
  refine XG.br eX3_parseTell_14 (P := ¬ (nI 136) = (nI 129)) (r := []) rfl (tgt := 24) (by decide) (fun h14 => ?_) (fun h14 => ?_)
  · skip
    have g14 : ¬ 136 = 129 := (fun z_9 => h14 ((nI_eq (a := 136) (b := 129) (by omega) (by omega)).mpr z_9))
    refine XG.blk tX3_parseTell_ok 12 2 (pc' := 28) (pl' := [some (.ref 0), some (.int (nI 136))]) (st' := [(.int (nI 130)), (.int (nI 136))]) (W1 := (dW rv ra rb (.ref 6) (xW tv ta tb))) (bs := []) rfl rfl rfl ?_
    refine XG.br eX3_parseTell_28 (P := ¬ (nI 136) = (nI 130)) (r := []) rfl (tgt := 38) (by decide) (fun h28 => ?_) (fun h28 => ?_)
    · skip
      have g28 : ¬ 136 = 130 := (fun z_9 => h28 ((nI_eq (a := 136) (b := 130) (by omega) (by omega)).mpr z_9))
      refine XG.blk tX3_parseTell_ok 18 2 (pc' := 42) (pl' := [some (.ref 0), some (.int (nI 136))]) (st' := [(.int (nI 131)), (.int (nI 136))]) (W1 := (dW rv ra rb (.ref 6) (xW tv ta tb))) (bs := []) rfl rfl rfl ?_
      refine XG.br eX3_parseTell_42 (P := ¬ (nI 136) = (nI 131)) (r := []) rfl (tgt := 52) (by decide) (fun h42 => ?_) (fun h42 => ?_)
      · skip
        have g42 : ¬ 136 = 131 := (fun z_9 => h42 ((nI_eq (a := 136) (b := 131) (by omega) (by omega)).mpr z_9))
        refine XG.blk tX3_parseTell_ok 24 2 (pc' := 56) (pl' := [some (.ref 0), some (.int (nI 136))]) (st' := [(.int (nI 132)), (.int (nI 136))]) (W1 := (dW rv ra rb (.ref 6) (xW tv ta tb))) (bs := []) rfl rfl rfl ?_
        refine XG.br eX3_parseTell_56 (P := (nI 136) < (nI 132)) (r := []) rfl (tgt := 74) (by decide) (fun h56 => ?_) (fun h56 => ?_)
        · exfalso
          have g56 : 136 < 132 := (nI_ltI (a := 136) (b := 132) (by omega) (by omega)).mp h56
          omega
        · skip
          have g56 : ¬ 136 < 132 := (fun z_9 => h56 ((nI_ltI (a := 136) (b := 132) (by omega) (by omega)).mpr z_9))
          refine XG.blk tX3_parseTell_ok 27 2 (pc' := 63) (pl' := [some (.ref 0), some (.int (nI 136))]) (st' := [(.int (nI 134)), (.int (nI 136))]) (W1 := (dW rv ra rb (.ref 6) (xW tv ta tb))) (bs := []) rfl rfl rfl ?_
          refine XG.br eX3_parseTell_63 (P := (nI 134) < (nI 136)) (r := []) rfl (tgt := 74) (by decide) (fun h63 => ?_) (fun h63 => ?_)
          · skip
            have g63 : 134 < 136 := (nI_ltI (a := 134) (b := 136) (by omega) (by omega)).mp h63
            refine XG.blk tX3_parseTell_ok 34 2 (pc' := 76) (pl' := [some (.ref 0), some (.int (nI 136))]) (st' := [(.int (nI 136)), (.ref 0)]) (W1 := (dW rv ra rb (.ref 6) (xW tv ta tb))) (bs := []) rfl rfl rfl ?_
            refine XG.callV0 eX3_parseTell_76 kl_X3_127 (cc_num28 (d - 1) rv ra rb tv ta tb K hT s hP S hR hk (by omega)) (px_fitS (by omega)) rfl rfl rfl (Nat.le_of_ble_eq_true rfl) (fun r9 W9 hp9 hl9 => ?_)
            obtain ⟨rv1, tv1, ta1, tb1, rfl, hc1, hR1, rfl⟩ := hp9
            have hQ1 := hR1.tp
            show XG _ _ _ _ _ _ [] (dW rv1 ra rb (.ref 6) (xW tv1 ta1 tb1))
            refine XG.blk tX3_parseTell_ok 37 2 (pc' := 82) (pl' := [some (.ref 0), some (.int (nI 136))]) (st' := [(.int (nI 59)), (.ref 0)]) (W1 := (dW rv1 ra rb (.ref 6) (xW tv1 ta1 tb1))) (bs := []) rfl rfl rfl ?_
            refine XG.callV0 eX3_parseTell_82 kl_X3_130 (cc_take (d - 1) rv1 ra rb (.ref 6) (xW tv1 ta1 tb1) K hT (prs (bd (bd (advS s) (bndS K 0 99)) (fun s9 => .inr (s9, (va_up S.1 36 (K.2.2.1 (s.1 + 1)), S.2))))) hQ1.1 4 (by unfold vk; omega) (by decide)) (px_fitS (by omega)) rfl rfl rfl (Nat.le_of_ble_eq_true rfl) (fun r9 W9 hp9 hl9 => ?_)
            obtain ⟨rv2, rfl, hc2, hP2, rfl⟩ := hp9
            show XG _ _ _ _ _ _ [] (dW rv2 ra rb (.ref 6) (xW tv1 ta1 tb1))
            refine XS.vret eX3_parseTell_85 rfl ?_
            refine ⟨_, _, _, _, rfl, hc1.tr (hc2.mono (by decide)), ?_, rfl⟩
            rw [te_28 hk, tl_num]
            exact (hQ1.tk hP2).rq
          · exfalso
            have g63 : ¬ 134 < 136 := (fun z_9 => h63 ((nI_ltI (a := 134) (b := 136) (by omega) (by omega)).mpr z_9))
            omega
      · exfalso
        have h42 := Decidable.not_not.mp h42
        have g42 : 136 = 131 := (nI_eq (a := 136) (b := 131) (by omega) (by omega)).mp h42
        omega
    · exfalso
      have h28 := Decidable.not_not.mp h28
      have g28 : 136 = 130 := (nI_eq (a := 136) (b := 130) (by omega) (by omega)).mp h28
      omega
  · exfalso
    have h14 := Decidable.not_not.mp h14
    have g14 : 136 = 129 := (nI_eq (a := 136) (b := 129) (by omega) (by omega)).mp h14
    omega
set_option maxHeartbeats 1000000 in
theorem ct_n29 (d : Nat) (rv : Nat → Int32) (ra : Nat → Nat → Int32) (rb : Nat → Nat → Int64) (tv : Nat → Int32) (ta : Nat → Nat → Int32) (tb : Nat → Nat → Int64) (K : TKS) (hT : CTk K ra rb) (s : PT) (hP : PVc K (.inr s) rv) (S : SD) (hR : RDc S s.1 tv ta tb) (hk : K.1 s.1 = 29) (hd : 23 ≤ d) : Con mX3_parseTell d [.ref 0] (dW rv ra rb (.ref 6) (xW tv ta tb)) (fun q W' => ∃ rv' tv' ta' tb', W' = dW rv' ra rb (.ref 6) (xW tv' ta' tb') ∧ chg [1, 8, 9, 10, 11] rv rv' ∧ RQc K (tellS K (s, S)) rv' tv' ta' tb' ∧ q = none) := by
  have hs4 := hP.1
  have hK := hT s.1 hP.1 hP.2.2.2.1
  have hkk : ((ra 4) s.1) = nI 137 := by rw [hK.1, hk]; rfl
  refine Con.of (by decide) (Nat.le_of_ble_eq_true rfl) ?_
  have q1 : (rv 8) = (nI s.1) := hP.2.1
  have q2 : (nI s.1).toNatClampNeg = s.1 := nI_clamp (by omega)
  have q3 : ((ra 4) s.1) = (nI 137) := hkk
  refine XG.blk tX3_parseTell_ok 0 8 (pc' := 14) (pl' := [some (.ref 0), some (.int ((ra 4) (rv 8).toNatClampNeg))]) (st' := [(.int (nI 129)), (.int ((ra 4) (rv 8).toNatClampNeg))]) (W1 := (dW rv ra rb (.ref 6) (xW tv ta tb))) (bs := [px_vb (rv 8) 402]) rfl rfl (by (try simp only [q1, q2, q3]); exact (px_all (px_vbN (by omega) (by decide)) rfl)) ?_
  simp only [q1, q2, q3]
  refine XG.br eX3_parseTell_14 (P := ¬ (nI 137) = (nI 129)) (r := []) rfl (tgt := 24) (by decide) (fun h14 => ?_) (fun h14 => ?_)
  · skip
    have g14 : ¬ 137 = 129 := (fun z_9 => h14 ((nI_eq (a := 137) (b := 129) (by omega) (by omega)).mpr z_9))
    refine XG.blk tX3_parseTell_ok 12 2 (pc' := 28) (pl' := [some (.ref 0), some (.int (nI 137))]) (st' := [(.int (nI 130)), (.int (nI 137))]) (W1 := (dW rv ra rb (.ref 6) (xW tv ta tb))) (bs := []) rfl rfl rfl ?_
    refine XG.br eX3_parseTell_28 (P := ¬ (nI 137) = (nI 130)) (r := []) rfl (tgt := 38) (by decide) (fun h28 => ?_) (fun h28 => ?_)
    · skip
      have g28 : ¬ 137 = 130 := (fun z_9 => h28 ((nI_eq (a := 137) (b := 130) (by omega) (by omega)).mpr z_9))
      refine XG.blk tX3_parseTell_ok 18 2 (pc' := 42) (pl' := [some (.ref 0), some (.int (nI 137))]) (st' := [(.int (nI 131)), (.int (nI 137))]) (W1 := (dW rv ra rb (.ref 6) (xW tv ta tb))) (bs := []) rfl rfl rfl ?_
      refine XG.br eX3_parseTell_42 (P := ¬ (nI 137) = (nI 131)) (r := []) rfl (tgt := 52) (by decide) (fun h42 => ?_) (fun h42 => ?_)
      · skip
        have g42 : ¬ 137 = 131 := (fun z_9 => h42 ((nI_eq (a := 137) (b := 131) (by omega) (by omega)).mpr z_9))
        refine XG.blk tX3_parseTell_ok 24 2 (pc' := 56) (pl' := [some (.ref 0), some (.int (nI 137))]) (st' := [(.int (nI 132)), (.int (nI 137))]) (W1 := (dW rv ra rb (.ref 6) (xW tv ta tb))) (bs := []) rfl rfl rfl ?_
        refine XG.br eX3_parseTell_56 (P := (nI 137) < (nI 132)) (r := []) rfl (tgt := 74) (by decide) (fun h56 => ?_) (fun h56 => ?_)
        · exfalso
          have g56 : 137 < 132 := (nI_ltI (a := 137) (b := 132) (by omega) (by omega)).mp h56
          omega
        · skip
          have g56 : ¬ 137 < 132 := (fun z_9 => h56 ((nI_ltI (a := 137) (b := 132) (by omega) (by omega)).mpr z_9))
          refine XG.blk tX3_parseTell_ok 27 2 (pc' := 63) (pl' := [some (.ref 0), some (.int (nI 137))]) (st' := [(.int (nI 134)), (.int (nI 137))]) (W1 := (dW rv ra rb (.ref 6) (xW tv ta tb))) (bs := []) rfl rfl rfl ?_
          refine XG.br eX3_parseTell_63 (P := (nI 134) < (nI 137)) (r := []) rfl (tgt := 74) (by decide) (fun h63 => ?_) (fun h63 => ?_)
          · skip
            have g63 : 134 < 137 := (nI_ltI (a := 134) (b := 137) (by omega) (by omega)).mp h63
            refine XG.blk tX3_parseTell_ok 34 2 (pc' := 76) (pl' := [some (.ref 0), some (.int (nI 137))]) (st' := [(.int (nI 137)), (.ref 0)]) (W1 := (dW rv ra rb (.ref 6) (xW tv ta tb))) (bs := []) rfl rfl rfl ?_
            refine XG.callV0 eX3_parseTell_76 kl_X3_127 (cc_num29 (d - 1) rv ra rb tv ta tb K hT s hP S hR hk (by omega)) (px_fitS (by omega)) rfl rfl rfl (Nat.le_of_ble_eq_true rfl) (fun r9 W9 hp9 hl9 => ?_)
            obtain ⟨rv1, tv1, ta1, tb1, rfl, hc1, hR1, rfl⟩ := hp9
            have hQ1 := hR1.tp
            show XG _ _ _ _ _ _ [] (dW rv1 ra rb (.ref 6) (xW tv1 ta1 tb1))
            refine XG.blk tX3_parseTell_ok 37 2 (pc' := 82) (pl' := [some (.ref 0), some (.int (nI 137))]) (st' := [(.int (nI 59)), (.ref 0)]) (W1 := (dW rv1 ra rb (.ref 6) (xW tv1 ta1 tb1))) (bs := []) rfl rfl rfl ?_
            refine XG.callV0 eX3_parseTell_82 kl_X3_130 (cc_take (d - 1) rv1 ra rb (.ref 6) (xW tv1 ta1 tb1) K hT (prs (bd (bd (advS s) (bndS K 0 9999)) (fun s9 => .inr (s9, (va_up S.1 37 (K.2.2.1 (s.1 + 1)), S.2))))) hQ1.1 4 (by unfold vk; omega) (by decide)) (px_fitS (by omega)) rfl rfl rfl (Nat.le_of_ble_eq_true rfl) (fun r9 W9 hp9 hl9 => ?_)
            obtain ⟨rv2, rfl, hc2, hP2, rfl⟩ := hp9
            show XG _ _ _ _ _ _ [] (dW rv2 ra rb (.ref 6) (xW tv1 ta1 tb1))
            refine XS.vret eX3_parseTell_85 rfl ?_
            refine ⟨_, _, _, _, rfl, hc1.tr (hc2.mono (by decide)), ?_, rfl⟩
            rw [te_29 hk, tl_num]
            exact (hQ1.tk hP2).rq
          · exfalso
            have g63 : ¬ 134 < 137 := (fun z_9 => h63 ((nI_ltI (a := 134) (b := 137) (by omega) (by omega)).mpr z_9))
            omega
      · exfalso
        have h42 := Decidable.not_not.mp h42
        have g42 : 137 = 131 := (nI_eq (a := 137) (b := 131) (by omega) (by omega)).mp h42
        omega
    · exfalso
      have h28 := Decidable.not_not.mp h28
      have g28 : 137 = 130 := (nI_eq (a := 137) (b := 130) (by omega) (by omega)).mp h28
      omega
  · exfalso
    have h14 := Decidable.not_not.mp h14
    have g14 : 137 = 129 := (nI_eq (a := 137) (b := 129) (by omega) (by omega)).mp h14
    omega
set_option maxHeartbeats 1000000 in
theorem ct_law (d : Nat) (rv : Nat → Int32) (ra : Nat → Nat → Int32) (rb : Nat → Nat → Int64) (tv : Nat → Int32) (ta : Nat → Nat → Int32) (tb : Nat → Nat → Int64) (K : TKS) (hT : CTk K ra rb) (s : PT) (hP : PVc K (.inr s) rv) (S : SD) (hR : RDc S s.1 tv ta tb) (hk : 24 ≤ K.1 s.1 ∧ K.1 s.1 ≤ 26) (hd : 23 ≤ d) : Con mX3_parseTell d [.ref 0] (dW rv ra rb (.ref 6) (xW tv ta tb)) (fun q W' => ∃ rv' tv' ta' tb', W' = dW rv' ra rb (.ref 6) (xW tv' ta' tb') ∧ chg [1, 8, 9, 10, 11] rv rv' ∧ RQc K (tellS K (s, S)) rv' tv' ta' tb' ∧ q = none) := by
  have hs4 := hP.1
  have hK := hT s.1 hP.1 hP.2.2.2.1
  have hck : ck (K.1 s.1) = K.1 s.1 + 108 := by
    rcases (show K.1 s.1 = 24 ∨ K.1 s.1 = 25 ∨ K.1 s.1 = 26 by omega) with e | e | e <;> rw [e] <;> rfl
  refine Con.of (by decide) (Nat.le_of_ble_eq_true rfl) ?_
  have q1 : (rv 8) = (nI s.1) := hP.2.1
  have q2 : (nI s.1).toNatClampNeg = s.1 := nI_clamp (by omega)
  have q3 : ((ra 4) s.1) = (nI (ck (K.1 s.1))) := hK.1
  refine XG.blk tX3_parseTell_ok 0 8 (pc' := 14) (pl' := [some (.ref 0), some (.int ((ra 4) (rv 8).toNatClampNeg))]) (st' := [(.int (nI 129)), (.int ((ra 4) (rv 8).toNatClampNeg))]) (W1 := (dW rv ra rb (.ref 6) (xW tv ta tb))) (bs := [px_vb (rv 8) 402]) rfl rfl (by (try simp only [q1, q2, q3]); exact (px_all (px_vbN (by omega) (by decide)) rfl)) ?_
  simp only [q1, q2, q3]
  refine XG.br eX3_parseTell_14 (P := ¬ (nI (ck (K.1 s.1))) = (nI 129)) (r := []) rfl (tgt := 24) (by decide) (fun h14 => ?_) (fun h14 => ?_)
  · skip
    have g14 : ¬ (ck (K.1 s.1)) = 129 := (fun z_9 => h14 ((nI_eq (a := (ck (K.1 s.1))) (b := 129) (by omega) (by omega)).mpr z_9))
    refine XG.blk tX3_parseTell_ok 12 2 (pc' := 28) (pl' := [some (.ref 0), some (.int (nI (ck (K.1 s.1))))]) (st' := [(.int (nI 130)), (.int (nI (ck (K.1 s.1))))]) (W1 := (dW rv ra rb (.ref 6) (xW tv ta tb))) (bs := []) rfl rfl rfl ?_
    refine XG.br eX3_parseTell_28 (P := ¬ (nI (ck (K.1 s.1))) = (nI 130)) (r := []) rfl (tgt := 38) (by decide) (fun h28 => ?_) (fun h28 => ?_)
    · skip
      have g28 : ¬ (ck (K.1 s.1)) = 130 := (fun z_9 => h28 ((nI_eq (a := (ck (K.1 s.1))) (b := 130) (by omega) (by omega)).mpr z_9))
      refine XG.blk tX3_parseTell_ok 18 2 (pc' := 42) (pl' := [some (.ref 0), some (.int (nI (ck (K.1 s.1))))]) (st' := [(.int (nI 131)), (.int (nI (ck (K.1 s.1))))]) (W1 := (dW rv ra rb (.ref 6) (xW tv ta tb))) (bs := []) rfl rfl rfl ?_
      refine XG.br eX3_parseTell_42 (P := ¬ (nI (ck (K.1 s.1))) = (nI 131)) (r := []) rfl (tgt := 52) (by decide) (fun h42 => ?_) (fun h42 => ?_)
      · skip
        have g42 : ¬ (ck (K.1 s.1)) = 131 := (fun z_9 => h42 ((nI_eq (a := (ck (K.1 s.1))) (b := 131) (by omega) (by omega)).mpr z_9))
        refine XG.blk tX3_parseTell_ok 24 2 (pc' := 56) (pl' := [some (.ref 0), some (.int (nI (ck (K.1 s.1))))]) (st' := [(.int (nI 132)), (.int (nI (ck (K.1 s.1))))]) (W1 := (dW rv ra rb (.ref 6) (xW tv ta tb))) (bs := []) rfl rfl rfl ?_
        refine XG.br eX3_parseTell_56 (P := (nI (ck (K.1 s.1))) < (nI 132)) (r := []) rfl (tgt := 74) (by decide) (fun h56 => ?_) (fun h56 => ?_)
        · exfalso
          have g56 : (ck (K.1 s.1)) < 132 := (nI_ltI (a := (ck (K.1 s.1))) (b := 132) (by omega) (by omega)).mp h56
          omega
        · skip
          have g56 : ¬ (ck (K.1 s.1)) < 132 := (fun z_9 => h56 ((nI_ltI (a := (ck (K.1 s.1))) (b := 132) (by omega) (by omega)).mpr z_9))
          refine XG.blk tX3_parseTell_ok 27 2 (pc' := 63) (pl' := [some (.ref 0), some (.int (nI (ck (K.1 s.1))))]) (st' := [(.int (nI 134)), (.int (nI (ck (K.1 s.1))))]) (W1 := (dW rv ra rb (.ref 6) (xW tv ta tb))) (bs := []) rfl rfl rfl ?_
          refine XG.br eX3_parseTell_63 (P := (nI 134) < (nI (ck (K.1 s.1)))) (r := []) rfl (tgt := 74) (by decide) (fun h63 => ?_) (fun h63 => ?_)
          · exfalso
            have g63 : 134 < (ck (K.1 s.1)) := (nI_ltI (a := 134) (b := (ck (K.1 s.1))) (by omega) (by omega)).mp h63
            omega
          · skip
            have g63 : ¬ 134 < (ck (K.1 s.1)) := (fun z_9 => h63 ((nI_ltI (a := 134) (b := (ck (K.1 s.1))) (by omega) (by omega)).mpr z_9))
            refine XG.blk tX3_parseTell_ok 30 2 (pc' := 68) (pl' := [some (.ref 0), some (.int (nI (ck (K.1 s.1))))]) (st' := [(.int (nI (ck (K.1 s.1)))), (.ref 0)]) (W1 := (dW rv ra rb (.ref 6) (xW tv ta tb))) (bs := []) rfl rfl rfl ?_
            refine XG.callV0 eX3_parseTell_68 kl_X3_123 (cc_lawTold (d - 1) rv ra rb tv ta tb K hT s hP S hR (K.1 s.1) rfl hk (by omega)) (px_fitS (by omega)) rfl rfl rfl (Nat.le_of_ble_eq_true rfl) (fun r9 W9 hp9 hl9 => ?_)
            obtain ⟨rv1, tv1, ta1, tb1, rfl, hc1, hR1, rfl⟩ := hp9
            have hQ1 := hR1
            show XG _ _ _ _ _ _ [] (dW rv1 ra rb (.ref 6) (xW tv1 ta1 tb1))
            refine XG.goto eX3_parseTell_71 (tgt := 79) (by decide) ?_
            refine XG.blk tX3_parseTell_ok 37 2 (pc' := 82) (pl' := [some (.ref 0), some (.int (nI (ck (K.1 s.1))))]) (st' := [(.int (nI 59)), (.ref 0)]) (W1 := (dW rv1 ra rb (.ref 6) (xW tv1 ta1 tb1))) (bs := []) rfl rfl rfl ?_
            refine XG.callV0 eX3_parseTell_82 kl_X3_130 (cc_take (d - 1) rv1 ra rb (.ref 6) (xW tv1 ta1 tb1) K hT (prs (bd (bd (bd (bd (.inr s) (mstS K (K.1 s.1))) (mstS K 5)) (fun s2 => lawT K 4 (s2, []))) (fun q => .inr (q.1, (S.1, S.2.1, S.2.2.1, S.2.2.2.1, va_up S.2.2.2.2 (K.1 s.1 - 24) (some q.2)))))) hQ1.1 4 (by unfold vk; omega) (by decide)) (px_fitS (by omega)) rfl rfl rfl (Nat.le_of_ble_eq_true rfl) (fun r9 W9 hp9 hl9 => ?_)
            obtain ⟨rv2, rfl, hc2, hP2, rfl⟩ := hp9
            show XG _ _ _ _ _ _ [] (dW rv2 ra rb (.ref 6) (xW tv1 ta1 tb1))
            refine XS.vret eX3_parseTell_85 rfl ?_
            refine ⟨_, _, _, _, rfl, hc1.tr (hc2.mono (by decide)), ?_, rfl⟩
            rw [te_l hk, tl_law K s S _ rfl]
            exact (hQ1.tk hP2).rq
      · exfalso
        have h42 := Decidable.not_not.mp h42
        have g42 : (ck (K.1 s.1)) = 131 := (nI_eq (a := (ck (K.1 s.1))) (b := 131) (by omega) (by omega)).mp h42
        omega
    · exfalso
      have h28 := Decidable.not_not.mp h28
      have g28 : (ck (K.1 s.1)) = 130 := (nI_eq (a := (ck (K.1 s.1))) (b := 130) (by omega) (by omega)).mp h28
      omega
  · exfalso
    have h14 := Decidable.not_not.mp h14
    have g14 : (ck (K.1 s.1)) = 129 := (nI_eq (a := (ck (K.1 s.1))) (b := 129) (by omega) (by omega)).mp h14
    omega
set_option maxHeartbeats 1000000 in
theorem ct_F (d : Nat) (rv : Nat → Int32) (ra : Nat → Nat → Int32) (rb : Nat → Nat → Int64) (tv : Nat → Int32) (ta : Nat → Nat → Int32) (tb : Nat → Nat → Int64) (K : TKS) (hT : CTk K ra rb) (s : PT) (hP : PVc K (.inr s) rv) (S : SD) (hR : RDc S s.1 tv ta tb) (hk : ¬ (20 ≤ K.1 s.1 ∧ K.1 s.1 ≤ 29)) (hd : 23 ≤ d) : Con mX3_parseTell d [.ref 0] (dW rv ra rb (.ref 6) (xW tv ta tb)) (fun q W' => ∃ rv' tv' ta' tb', W' = dW rv' ra rb (.ref 6) (xW tv' ta' tb') ∧ chg [1, 8, 9, 10, 11] rv rv' ∧ RQc K (tellS K (s, S)) rv' tv' ta' tb' ∧ q = none) := by
  have hs4 := hP.1
  have hK := hT s.1 hP.1 hP.2.2.2.1
  have h20 := ck_20 hK.2.2.2.2.1
  have hlt := ck_lt hK.2.2.2.2.1
  have hno : ¬ (128 ≤ ck (K.1 s.1) ∧ ck (K.1 s.1) ≤ 137) := fun w => hk (h20.mp w)
  refine Con.of (by decide) (Nat.le_of_ble_eq_true rfl) ?_
  have q1 : (rv 8) = (nI s.1) := hP.2.1
  have q2 : (nI s.1).toNatClampNeg = s.1 := nI_clamp (by omega)
  have q3 : ((ra 4) s.1) = (nI (ck (K.1 s.1))) := hK.1
  refine XG.blk tX3_parseTell_ok 0 8 (pc' := 14) (pl' := [some (.ref 0), some (.int ((ra 4) (rv 8).toNatClampNeg))]) (st' := [(.int (nI 129)), (.int ((ra 4) (rv 8).toNatClampNeg))]) (W1 := (dW rv ra rb (.ref 6) (xW tv ta tb))) (bs := [px_vb (rv 8) 402]) rfl rfl (by (try simp only [q1, q2, q3]); exact (px_all (px_vbN (by omega) (by decide)) rfl)) ?_
  simp only [q1, q2, q3]
  refine XG.br eX3_parseTell_14 (P := ¬ (nI (ck (K.1 s.1))) = (nI 129)) (r := []) rfl (tgt := 24) (by decide) (fun h14 => ?_) (fun h14 => ?_)
  · skip
    have g14 : ¬ (ck (K.1 s.1)) = 129 := (fun z_9 => h14 ((nI_eq (a := (ck (K.1 s.1))) (b := 129) (by omega) (by omega)).mpr z_9))
    refine XG.blk tX3_parseTell_ok 12 2 (pc' := 28) (pl' := [some (.ref 0), some (.int (nI (ck (K.1 s.1))))]) (st' := [(.int (nI 130)), (.int (nI (ck (K.1 s.1))))]) (W1 := (dW rv ra rb (.ref 6) (xW tv ta tb))) (bs := []) rfl rfl rfl ?_
    refine XG.br eX3_parseTell_28 (P := ¬ (nI (ck (K.1 s.1))) = (nI 130)) (r := []) rfl (tgt := 38) (by decide) (fun h28 => ?_) (fun h28 => ?_)
    · skip
      have g28 : ¬ (ck (K.1 s.1)) = 130 := (fun z_9 => h28 ((nI_eq (a := (ck (K.1 s.1))) (b := 130) (by omega) (by omega)).mpr z_9))
      refine XG.blk tX3_parseTell_ok 18 2 (pc' := 42) (pl' := [some (.ref 0), some (.int (nI (ck (K.1 s.1))))]) (st' := [(.int (nI 131)), (.int (nI (ck (K.1 s.1))))]) (W1 := (dW rv ra rb (.ref 6) (xW tv ta tb))) (bs := []) rfl rfl rfl ?_
      refine XG.br eX3_parseTell_42 (P := ¬ (nI (ck (K.1 s.1))) = (nI 131)) (r := []) rfl (tgt := 52) (by decide) (fun h42 => ?_) (fun h42 => ?_)
      · skip
        have g42 : ¬ (ck (K.1 s.1)) = 131 := (fun z_9 => h42 ((nI_eq (a := (ck (K.1 s.1))) (b := 131) (by omega) (by omega)).mpr z_9))
        refine XG.blk tX3_parseTell_ok 24 2 (pc' := 56) (pl' := [some (.ref 0), some (.int (nI (ck (K.1 s.1))))]) (st' := [(.int (nI 132)), (.int (nI (ck (K.1 s.1))))]) (W1 := (dW rv ra rb (.ref 6) (xW tv ta tb))) (bs := []) rfl rfl rfl ?_
        refine XG.br eX3_parseTell_56 (P := (nI (ck (K.1 s.1))) < (nI 132)) (r := []) rfl (tgt := 74) (by decide) (fun h56 => ?_) (fun h56 => ?_)
        · skip
          have g56 : (ck (K.1 s.1)) < 132 := (nI_ltI (a := (ck (K.1 s.1))) (b := 132) (by omega) (by omega)).mp h56
          refine XG.blk tX3_parseTell_ok 34 2 (pc' := 76) (pl' := [some (.ref 0), some (.int (nI (ck (K.1 s.1))))]) (st' := [(.int (nI (ck (K.1 s.1)))), (.ref 0)]) (W1 := (dW rv ra rb (.ref 6) (xW tv ta tb))) (bs := []) rfl rfl rfl ?_
          refine XG.callV0 eX3_parseTell_76 kl_X3_127 (cc_numF (d - 1) rv ra rb tv ta tb K hT s hP S hR (ck (K.1 s.1)) (by omega) (by omega) (by omega) (by omega) (by omega) (by omega)) (px_fitS (by omega)) rfl rfl rfl (Nat.le_of_ble_eq_true rfl) (fun r9 W9 hp9 hl9 => ?_)
          obtain ⟨rv1, tv1, ta1, tb1, rfl, hc1, hR1, rfl⟩ := hp9
          have hQ1 := hR1.tp
          show XG _ _ _ _ _ _ [] (dW rv1 ra rb (.ref 6) (xW tv1 ta1 tb1))
          refine XG.blk tX3_parseTell_ok 37 2 (pc' := 82) (pl' := [some (.ref 0), some (.int (nI (ck (K.1 s.1))))]) (st' := [(.int (nI 59)), (.ref 0)]) (W1 := (dW rv1 ra rb (.ref 6) (xW tv1 ta1 tb1))) (bs := []) rfl rfl rfl ?_
          refine XG.callV0 eX3_parseTell_82 kl_X3_130 (cc_take (d - 1) rv1 ra rb (.ref 6) (xW tv1 ta1 tb1) K hT (prs (bd (.inl (1, s.1)) (fun s9 => .inr (s9, S)))) hQ1.1 4 (by unfold vk; omega) (by decide)) (px_fitS (by omega)) rfl rfl rfl (Nat.le_of_ble_eq_true rfl) (fun r9 W9 hp9 hl9 => ?_)
          obtain ⟨rv2, rfl, hc2, hP2, rfl⟩ := hp9
          show XG _ _ _ _ _ _ [] (dW rv2 ra rb (.ref 6) (xW tv1 ta1 tb1))
          refine XS.vret eX3_parseTell_85 rfl ?_
          refine ⟨_, _, _, _, rfl, hc1.tr (hc2.mono (by decide)), ?_, rfl⟩
          rw [te_F hk]
          exact (hQ1.tk hP2).rq
        · skip
          have g56 : ¬ (ck (K.1 s.1)) < 132 := (fun z_9 => h56 ((nI_ltI (a := (ck (K.1 s.1))) (b := 132) (by omega) (by omega)).mpr z_9))
          refine XG.blk tX3_parseTell_ok 27 2 (pc' := 63) (pl' := [some (.ref 0), some (.int (nI (ck (K.1 s.1))))]) (st' := [(.int (nI 134)), (.int (nI (ck (K.1 s.1))))]) (W1 := (dW rv ra rb (.ref 6) (xW tv ta tb))) (bs := []) rfl rfl rfl ?_
          refine XG.br eX3_parseTell_63 (P := (nI 134) < (nI (ck (K.1 s.1)))) (r := []) rfl (tgt := 74) (by decide) (fun h63 => ?_) (fun h63 => ?_)
          · skip
            have g63 : 134 < (ck (K.1 s.1)) := (nI_ltI (a := 134) (b := (ck (K.1 s.1))) (by omega) (by omega)).mp h63
            refine XG.blk tX3_parseTell_ok 34 2 (pc' := 76) (pl' := [some (.ref 0), some (.int (nI (ck (K.1 s.1))))]) (st' := [(.int (nI (ck (K.1 s.1)))), (.ref 0)]) (W1 := (dW rv ra rb (.ref 6) (xW tv ta tb))) (bs := []) rfl rfl rfl ?_
            refine XG.callV0 eX3_parseTell_76 kl_X3_127 (cc_numF (d - 1) rv ra rb tv ta tb K hT s hP S hR (ck (K.1 s.1)) (by omega) (by omega) (by omega) (by omega) (by omega) (by omega)) (px_fitS (by omega)) rfl rfl rfl (Nat.le_of_ble_eq_true rfl) (fun r9 W9 hp9 hl9 => ?_)
            obtain ⟨rv1, tv1, ta1, tb1, rfl, hc1, hR1, rfl⟩ := hp9
            have hQ1 := hR1.tp
            show XG _ _ _ _ _ _ [] (dW rv1 ra rb (.ref 6) (xW tv1 ta1 tb1))
            refine XG.blk tX3_parseTell_ok 37 2 (pc' := 82) (pl' := [some (.ref 0), some (.int (nI (ck (K.1 s.1))))]) (st' := [(.int (nI 59)), (.ref 0)]) (W1 := (dW rv1 ra rb (.ref 6) (xW tv1 ta1 tb1))) (bs := []) rfl rfl rfl ?_
            refine XG.callV0 eX3_parseTell_82 kl_X3_130 (cc_take (d - 1) rv1 ra rb (.ref 6) (xW tv1 ta1 tb1) K hT (prs (bd (.inl (1, s.1)) (fun s9 => .inr (s9, S)))) hQ1.1 4 (by unfold vk; omega) (by decide)) (px_fitS (by omega)) rfl rfl rfl (Nat.le_of_ble_eq_true rfl) (fun r9 W9 hp9 hl9 => ?_)
            obtain ⟨rv2, rfl, hc2, hP2, rfl⟩ := hp9
            show XG _ _ _ _ _ _ [] (dW rv2 ra rb (.ref 6) (xW tv1 ta1 tb1))
            refine XS.vret eX3_parseTell_85 rfl ?_
            refine ⟨_, _, _, _, rfl, hc1.tr (hc2.mono (by decide)), ?_, rfl⟩
            rw [te_F hk]
            exact (hQ1.tk hP2).rq
          · exfalso
            have g63 : ¬ 134 < (ck (K.1 s.1)) := (fun z_9 => h63 ((nI_ltI (a := 134) (b := (ck (K.1 s.1))) (by omega) (by omega)).mpr z_9))
            omega
      · exfalso
        have h42 := Decidable.not_not.mp h42
        have g42 : (ck (K.1 s.1)) = 131 := (nI_eq (a := (ck (K.1 s.1))) (b := 131) (by omega) (by omega)).mp h42
        omega
    · exfalso
      have h28 := Decidable.not_not.mp h28
      have g28 : (ck (K.1 s.1)) = 130 := (nI_eq (a := (ck (K.1 s.1))) (b := 130) (by omega) (by omega)).mp h28
      omega
  · exfalso
    have h14 := Decidable.not_not.mp h14
    have g14 : (ck (K.1 s.1)) = 129 := (nI_eq (a := (ck (K.1 s.1))) (b := 129) (by omega) (by omega)).mp h14
    omega
theorem cc_parseTell (d : Nat) (rv : Nat → Int32) (ra : Nat → Nat → Int32) (rb : Nat → Nat → Int64) (tv : Nat → Int32) (ta : Nat → Nat → Int32) (tb : Nat → Nat → Int64) (K : TKS) (hT : CTk K ra rb) (s : PT) (hP : PVc K (.inr s) rv) (S : SD) (hR : RDc S s.1 tv ta tb) (hd : 23 ≤ d) : Con mX3_parseTell d [.ref 0] (dW rv ra rb (.ref 6) (xW tv ta tb)) (fun q W' => ∃ rv' tv' ta' tb', W' = dW rv' ra rb (.ref 6) (xW tv' ta' tb') ∧ chg [1, 8, 9, 10, 11] rv rv' ∧ RQc K (tellS K (s, S)) rv' tv' ta' tb' ∧ q = none) := by
  by_cases h20 : 20 ≤ K.1 s.1 ∧ K.1 s.1 ≤ 29
  · by_cases hl : 24 ≤ K.1 s.1 ∧ K.1 s.1 ≤ 26
    · exact ct_law d rv ra rb tv ta tb K hT s hP S hR hl hd
    · rcases (show K.1 s.1 = 20 ∨ K.1 s.1 = 21 ∨ K.1 s.1 = 22 ∨ K.1 s.1 = 23 ∨ K.1 s.1 = 27 ∨ K.1 s.1 = 28 ∨ K.1 s.1 = 29 by omega) with h | h | h | h | h | h | h
      · exact ct_n20 d rv ra rb tv ta tb K hT s hP S hR h hd
      · exact ct_slp d rv ra rb tv ta tb K hT s hP S hR h hd
      · exact ct_pr d rv ra rb tv ta tb K hT s hP S hR h hd
      · exact ct_crs d rv ra rb tv ta tb K hT s hP S hR h hd
      · exact ct_n27 d rv ra rb tv ta tb K hT s hP S hR h hd
      · exact ct_n28 d rv ra rb tv ta tb K hT s hP S hR h hd
      · exact ct_n29 d rv ra rb tv ta tb K hT s hP S hR h hd
  · exact ct_F d rv ra rb tv ta tb K hT s hP S hR h20 hd
