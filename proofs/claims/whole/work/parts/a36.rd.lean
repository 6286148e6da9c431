/-! THE CLASS: numbers, sleepers, crossers, pairs told -/
theorem mst_adv {K : TKS} {k : Nat} {s : PT} (h : K.1 s.1 = k) : mstS K k s = advS s := by unfold mstS mstN advS; rw [if_pos h]
theorem bd_mst {K : TKS} {k : Nat} {s : PT} (h : K.1 s.1 = k) : bd (.inr s) (mstS K k) = advS s := mst_adv h
theorem adv_s {s s1 : PT} (h : advS s = .inr s1) : s1 = (s.1 + 1, s.2) := (advS_inr h).2
theorem Fq.cg {tv tv' : Nat → Int32} (h : Fq tv) (e1 : tv' 1 = tv 1) (e20 : tv' 20 = tv 20) : Fq tv' := by
  obtain ⟨m, sz, h1, h2, h3, h4, h5⟩ := h
  exact ⟨m, sz, e1.trans h1, h2, e20.trans h3, h4, h5⟩
theorem LwC.cg {S S' : SD} {t t' : Nat} {tv tv' : Nat → Int32} {ta ta' : Nat → Nat → Int32} (h : LwC S t tv ta) (ht : t ≤ t') (hS : S'.2.2.2.2 = S.2.2.2.2) (e20 : tv' 20 = tv 20) (a20 : ta' 20 = ta 20) (a21 : ta' 21 = ta 21) : LwC S' t' tv' ta' := by
  obtain ⟨sz, g1, g2, g4, g3⟩ := h
  exact ⟨sz, e20.trans g1, by omega, g4, by rw [hS, a20, a21]; exact g3⟩
theorem RDc.n23 {S : SD} {t t' x : Nat} {tv : Nat → Int32} {ta : Nat → Nat → Int32} {tb : Nat → Nat → Int64} (h : RDc S t tv ta tb) (ht : t ≤ t') : RDc (va_up S.1 23 x, S.2) t' (va_up tv 0 (nI x)) ta tb := by
  obtain ⟨h1, h2, h3, h4, h5, h6, h7⟩ := h
  exact ⟨⟨rfl, h1.2⟩, h2, h3, h4, h5.cg ht rfl rfl rfl rfl, h6, h7⟩
theorem RDc.n35 {S : SD} {t t' x : Nat} {tv : Nat → Int32} {ta : Nat → Nat → Int32} {tb : Nat → Nat → Int64} (h : RDc S t tv ta tb) (ht : t ≤ t') : RDc (va_up S.1 35 x, S.2) t' (va_up tv 4 (nI x)) ta tb := by
  obtain ⟨h1, h2, h3, h4, h5, h6, h7⟩ := h
  exact ⟨⟨h1.1, h1.2.1, h1.2.2.1, h1.2.2.2.1, rfl, h1.2.2.2.2.2⟩, h2, h3, h4, h5.cg ht rfl rfl rfl rfl, h6, h7⟩
theorem RDc.n36 {S : SD} {t t' x : Nat} {tv : Nat → Int32} {ta : Nat → Nat → Int32} {tb : Nat → Nat → Int64} (h : RDc S t tv ta tb) (ht : t ≤ t') : RDc (va_up S.1 36 x, S.2) t' (va_up tv 5 (nI x)) ta tb := by
  obtain ⟨h1, h2, h3, h4, h5, h6, h7⟩ := h
  exact ⟨⟨h1.1, h1.2.1, h1.2.2.1, h1.2.2.2.1, h1.2.2.2.2.1, rfl, h1.2.2.2.2.2.2⟩, h2, h3, h4, h5.cg ht rfl rfl rfl rfl, h6, h7⟩
theorem RDc.n37 {S : SD} {t t' x : Nat} {tv : Nat → Int32} {ta : Nat → Nat → Int32} {tb : Nat → Nat → Int64} (h : RDc S t tv ta tb) (ht : t ≤ t') : RDc (va_up S.1 37 x, S.2) t' (va_up tv 6 (nI x)) ta tb := by
  obtain ⟨h1, h2, h3, h4, h5, h6, h7⟩ := h
  exact ⟨⟨h1.1, h1.2.1, h1.2.2.1, h1.2.2.2.1, h1.2.2.2.2.1, h1.2.2.2.2.2.1, rfl⟩, h2, h3, h4, h5.cg ht rfl rfl rfl rfl, h6, h7⟩
set_option maxHeartbeats 1000000 in
theorem cc_num20 (d : Nat) (rv : Nat → Int32) (ra : Nat → Nat → Int32) (rb : Nat → Nat → Int64) (tv : Nat → Int32) (ta : Nat → Nat → Int32) (tb : Nat → Nat → Int64) (K : TKS) (hT : CTk K ra rb) (s : PT) (hP : PVc K (.inr s) rv) (S : SD) (hR : RDc S s.1 tv ta tb) (hk : K.1 s.1 = 20) (hd : 2 ≤ d) : Con mX3_parseNumber d [.ref 0, .int (nI 128)] (dW rv ra rb (.ref 6) (xW tv ta tb)) (fun q W' => ∃ rv' tv' ta' tb', W' = dW rv' ra rb (.ref 6) (xW tv' ta' tb') ∧ chg [1, 8, 9, 10, 11] rv rv' ∧ RPc K (bd (advS s) (bndS K 1 5)) (va_up S.1 23 (K.2.2.1 (s.1 + 1)), S.2) rv' tv' ta' tb' ∧ q = none) := by
  have hfq := hR.fq hP.1
  refine Con.of (by decide) (Nat.le_of_ble_eq_true rfl) ?_
  refine XG.blk tX3_parseNumber_ok 0 2 (pc' := 4) (pl' := [some (.ref 0), some (.int (nI 128))]) (st' := [(.int (nI 128)), (.int (nI 128))]) (W1 := (dW rv ra rb (.ref 6) (xW tv ta tb))) (bs := []) rfl rfl rfl ?_
  refine XG.br eX3_parseNumber_4 (P := ¬ (nI 128) = (nI 128)) (r := []) rfl (tgt := 28) (by decide) (fun h4 => ?_) (fun h4 => ?_)
  · exfalso
    have g4 : ¬ 128 = 128 := (fun z_9 => h4 ((nI_eq (a := 128) (b := 128) (by omega) (by omega)).mpr z_9))
    omega
  · skip
    have h4 := Decidable.not_not.mp h4
    have g4 : 128 = 128 := (nI_eq (a := 128) (b := 128) (by omega) (by omega)).mp h4
    refine XG.blk tX3_parseNumber_ok 3 2 (pc' := 9) (pl' := [some (.ref 0), some (.int (nI 128))]) (st' := [(.int (nI 128)), (.ref 0)]) (W1 := (dW rv ra rb (.ref 6) (xW tv ta tb))) (bs := []) rfl rfl rfl ?_
    refine XG.callV0 eX3_parseNumber_9 kl_X3_130 (cc_take (d - 1) rv ra rb (.ref 6) (xW tv ta tb) K hT (.inr s) hP 20 (by unfold vk; omega) (by decide)) (px_fitS (by omega)) rfl rfl rfl (Nat.le_of_ble_eq_true rfl) (fun r9 W9 hp9 hl9 => ?_)
    obtain ⟨rv1, rfl, hc1, hP1, rfl⟩ := hp9
    show XG _ _ _ _ _ _ [] (dW rv1 ra rb (.ref 6) (xW tv ta tb))
    refine XG.blk tX3_parseNumber_ok 6 5 (pc' := 19) (pl' := [some (.ref 0), some (.int (nI 128))]) (st' := [(.int (nI 5)), (.int (nI 1)), (.ref 0), (.ref 6)]) (W1 := (dW rv1 ra rb (.ref 6) (xW tv ta tb))) (bs := []) rfl rfl rfl ?_
    refine XG.callV0 eX3_parseNumber_19 kl_X3_133 (cc_takeInt (d - 1) rv1 ra rb (.ref 6) (xW tv ta tb) K hT (bd (.inr s) (mstS K 20)) hP1 1 5 (by decide) (by decide) (by omega)) (px_fitS (by omega)) rfl rfl rfl (Nat.le_of_ble_eq_true rfl) (fun r9 W9 hp9 hl9 => ?_)
    obtain ⟨rv2, x2, rfl, hc2, hP2, rfl, hx2⟩ := hp9
    show XG _ _ _ _ _ _ [(.int x2), (.ref 6)] (dW rv2 ra rb (.ref 6) (xW tv ta tb))
    refine XG.blk tX3_parseNumber_ok 12 1 (pc' := 25) (pl' := [some (.ref 0), some (.int (nI 128))]) (st' := []) (W1 := (dW rv2 ra rb (.ref 6) (xW (va_up tv 0 x2) ta tb))) (bs := []) rfl rfl rfl ?_
    refine XG.goto eX3_parseNumber_25 (tgt := 121) (by decide) ?_
    refine XS.vret eX3_parseNumber_121 rfl ?_
    rw [bd_mst hk] at hP2 hx2
    refine ⟨_, _, _, _, rfl, (hc1.mono (by decide)).tr hc2, ⟨hP2, hfq.cg rfl rfl, fun s3 h3 => ?_⟩, rfl⟩
    obtain ⟨s1, g1, g2⟩ := bd_inrE h3
    obtain rfl := adv_s g1
    rw [hx2 _ _ g1 g2]
    exact hR.n23 (by have := (bndS_inr g2).2.2; omega)
set_option maxHeartbeats 1000000 in
theorem cc_num27 (d : Nat) (rv : Nat → Int32) (ra : Nat → Nat → Int32) (rb : Nat → Nat → Int64) (tv : Nat → Int32) (ta : Nat → Nat → Int32) (tb : Nat → Nat → Int64) (K : TKS) (hT : CTk K ra rb) (s : PT) (hP : PVc K (.inr s) rv) (S : SD) (hR : RDc S s.1 tv ta tb) (hk : K.1 s.1 = 27) (hd : 2 ≤ d) : Con mX3_parseNumber d [.ref 0, .int (nI 135)] (dW rv ra rb (.ref 6) (xW tv ta tb)) (fun q W' => ∃ rv' tv' ta' tb', W' = dW rv' ra rb (.ref 6) (xW tv' ta' tb') ∧ chg [1, 8, 9, 10, 11] rv rv' ∧ RPc K (bd (advS s) (bndS K 0 99)) (va_up S.1 35 (K.2.2.1 (s.1 + 1)), S.2) rv' tv' ta' tb' ∧ q = none) := by
  have hfq := hR.fq hP.1
  refine Con.of (by decide) (Nat.le_of_ble_eq_true rfl) ?_
  refine XG.blk tX3_parseNumber_ok 0 2 (pc' := 4) (pl' := [some (.ref 0), some (.int (nI 135))]) (st' := [(.int (nI 128)), (.int (nI 135))]) (W1 := (dW rv ra rb (.ref 6) (xW tv ta tb))) (bs := []) rfl rfl rfl ?_
  refine XG.br eX3_parseNumber_4 (P := ¬ (nI 135) = (nI 128)) (r := []) rfl (tgt := 28) (by decide) (fun h4 => ?_) (fun h4 => ?_)
  · skip
    have g4 : ¬ 135 = 128 := (fun z_9 => h4 ((nI_eq (a := 135) (b := 128) (by omega) (by omega)).mpr z_9))
    refine XG.blk tX3_parseNumber_ok 14 2 (pc' := 32) (pl' := [some (.ref 0), some (.int (nI 135))]) (st' := [(.int (nI 135)), (.int (nI 135))]) (W1 := (dW rv ra rb (.ref 6) (xW tv ta tb))) (bs := []) rfl rfl rfl ?_
    refine XG.br eX3_parseNumber_32 (P := ¬ (nI 135) = (nI 135)) (r := []) rfl (tgt := 57) (by decide) (fun h32 => ?_) (fun h32 => ?_)
    · exfalso
      have g32 : ¬ 135 = 135 := (fun z_9 => h32 ((nI_eq (a := 135) (b := 135) (by omega) (by omega)).mpr z_9))
      omega
    · skip
      have h32 := Decidable.not_not.mp h32
      have g32 : 135 = 135 := (nI_eq (a := 135) (b := 135) (by omega) (by omega)).mp h32
      refine XG.blk tX3_parseNumber_ok 17 2 (pc' := 37) (pl' := [some (.ref 0), some (.int (nI 135))]) (st' := [(.int (nI 135)), (.ref 0)]) (W1 := (dW rv ra rb (.ref 6) (xW tv ta tb))) (bs := []) rfl rfl rfl ?_
      refine XG.callV0 eX3_parseNumber_37 kl_X3_130 (cc_take (d - 1) rv ra rb (.ref 6) (xW tv ta tb) K hT (.inr s) hP 27 (by unfold vk; omega) (by decide)) (px_fitS (by omega)) rfl rfl rfl (Nat.le_of_ble_eq_true rfl) (fun r9 W9 hp9 hl9 => ?_)
      obtain ⟨rv1, rfl, hc1, hP1, rfl⟩ := hp9
      show XG _ _ _ _ _ _ [] (dW rv1 ra rb (.ref 6) (xW tv ta tb))
      refine XG.blk tX3_parseNumber_ok 20 5 (pc' := 48) (pl' := [some (.ref 0), some (.int (nI 135))]) (st' := [(.int (nI 99)), (.int (nI 0)), (.ref 0), (.ref 6)]) (W1 := (dW rv1 ra rb (.ref 6) (xW tv ta tb))) (bs := []) rfl rfl rfl ?_
      refine XG.callV0 eX3_parseNumber_48 kl_X3_133 (cc_takeInt (d - 1) rv1 ra rb (.ref 6) (xW tv ta tb) K hT (bd (.inr s) (mstS K 27)) hP1 0 99 (by decide) (by decide) (by omega)) (px_fitS (by omega)) rfl rfl rfl (Nat.le_of_ble_eq_true rfl) (fun r9 W9 hp9 hl9 => ?_)
      obtain ⟨rv2, x2, rfl, hc2, hP2, rfl, hx2⟩ := hp9
      show XG _ _ _ _ _ _ [(.int x2), (.ref 6)] (dW rv2 ra rb (.ref 6) (xW tv ta tb))
      refine XG.blk tX3_parseNumber_ok 26 1 (pc' := 54) (pl' := [some (.ref 0), some (.int (nI 135))]) (st' := []) (W1 := (dW rv2 ra rb (.ref 6) (xW (va_up tv 4 x2) ta tb))) (bs := []) rfl rfl rfl ?_
      refine XG.goto eX3_parseNumber_54 (tgt := 121) (by decide) ?_
      refine XS.vret eX3_parseNumber_121 rfl ?_
      rw [bd_mst hk] at hP2 hx2
      refine ⟨_, _, _, _, rfl, (hc1.mono (by decide)).tr hc2, ⟨hP2, hfq.cg rfl rfl, fun s3 h3 => ?_⟩, rfl⟩
      obtain ⟨s1, g1, g2⟩ := bd_inrE h3
      obtain rfl := adv_s g1
      rw [hx2 _ _ g1 g2]
      exact hR.n35 (by have := (bndS_inr g2).2.2; omega)
  · exfalso
    have h4 := Decidable.not_not.mp h4
    have g4 : 135 = 128 := (nI_eq (a := 135) (b := 128) (by omega) (by omega)).mp h4
    omega
set_option maxHeartbeats 1000000 in
theorem cc_num28 (d : Nat) (rv : Nat → Int32) (ra : Nat → Nat → Int32) (rb : Nat → Nat → Int64) (tv : Nat → Int32) (ta : Nat → Nat → Int32) (tb : Nat → Nat → Int64) (K : TKS) (hT : CTk K ra rb) (s : PT) (hP : PVc K (.inr s) rv) (S : SD) (hR : RDc S s.1 tv ta tb) (hk : K.1 s.1 = 28) (hd : 2 ≤ d) : Con mX3_parseNumber d [.ref 0, .int (nI 136)] (dW rv ra rb (.ref 6) (xW tv ta tb)) (fun q W' => ∃ rv' tv' ta' tb', W' = dW rv' ra rb (.ref 6) (xW tv' ta' tb') ∧ chg [1, 8, 9, 10, 11] rv rv' ∧ RPc K (bd (advS s) (bndS K 0 99)) (va_up S.1 36 (K.2.2.1 (s.1 + 1)), S.2) rv' tv' ta' tb' ∧ q = none) := by
  have hfq := hR.fq hP.1
  refine Con.of (by decide) (Nat.le_of_ble_eq_true rfl) ?_
  refine XG.blk tX3_parseNumber_ok 0 2 (pc' := 4) (pl' := [some (.ref 0), some (.int (nI 136))]) (st' := [(.int (nI 128)), (.int (nI 136))]) (W1 := (dW rv ra rb (.ref 6) (xW tv ta tb))) (bs := []) rfl rfl rfl ?_
  refine XG.br eX3_parseNumber_4 (P := ¬ (nI 136) = (nI 128)) (r := []) rfl (tgt := 28) (by decide) (fun h4 => ?_) (fun h4 => ?_)
  · skip
    have g4 : ¬ 136 = 128 := (fun z_9 => h4 ((nI_eq (a := 136) (b := 128) (by omega) (by omega)).mpr z_9))
    refine XG.blk tX3_parseNumber_ok 14 2 (pc' := 32) (pl' := [some (.ref 0), some (.int (nI 136))]) (st' := [(.int (nI 135)), (.int (nI 136))]) (W1 := (dW rv ra rb (.ref 6) (xW tv ta tb))) (bs := []) rfl rfl rfl ?_
    refine XG.br eX3_parseNumber_32 (P := ¬ (nI 136) = (nI 135)) (r := []) rfl (tgt := 57) (by decide) (fun h32 => ?_) (fun h32 => ?_)
    · skip
      have g32 : ¬ 136 = 135 := (fun z_9 => h32 ((nI_eq (a := 136) (b := 135) (by omega) (by omega)).mpr z_9))
      refine XG.blk tX3_parseNumber_ok 28 2 (pc' := 61) (pl' := [some (.ref 0), some (.int (nI 136))]) (st' := [(.int (nI 136)), (.int (nI 136))]) (W1 := (dW rv ra rb (.ref 6) (xW tv ta tb))) (bs := []) rfl rfl rfl ?_
      refine XG.br eX3_parseNumber_61 (P := ¬ (nI 136) = (nI 136)) (r := []) rfl (tgt := 86) (by decide) (fun h61 => ?_) (fun h61 => ?_)
      · exfalso
        have g61 : ¬ 136 = 136 := (fun z_9 => h61 ((nI_eq (a := 136) (b := 136) (by omega) (by omega)).mpr z_9))
        omega
      · skip
        have h61 := Decidable.not_not.mp h61
        have g61 : 136 = 136 := (nI_eq (a := 136) (b := 136) (by omega) (by omega)).mp h61
        refine XG.blk tX3_parseNumber_ok 31 2 (pc' := 66) (pl' := [some (.ref 0), some (.int (nI 136))]) (st' := [(.int (nI 136)), (.ref 0)]) (W1 := (dW rv ra rb (.ref 6) (xW tv ta tb))) (bs := []) rfl rfl rfl ?_
        refine XG.callV0 eX3_parseNumber_66 kl_X3_130 (cc_take (d - 1) rv ra rb (.ref 6) (xW tv ta tb) K hT (.inr s) hP 28 (by unfold vk; omega) (by decide)) (px_fitS (by omega)) rfl rfl rfl (Nat.le_of_ble_eq_true rfl) (fun r9 W9 hp9 hl9 => ?_)
        obtain ⟨rv1, rfl, hc1, hP1, rfl⟩ := hp9
        show XG _ _ _ _ _ _ [] (dW rv1 ra rb (.ref 6) (xW tv ta tb))
        refine XG.blk tX3_parseNumber_ok 34 5 (pc' := 77) (pl' := [some (.ref 0), some (.int (nI 136))]) (st' := [(.int (nI 99)), (.int (nI 0)), (.ref 0), (.ref 6)]) (W1 := (dW rv1 ra rb (.ref 6) (xW tv ta tb))) (bs := []) rfl rfl rfl ?_
        refine XG.callV0 eX3_parseNumber_77 kl_X3_133 (cc_takeInt (d - 1) rv1 ra rb (.ref 6) (xW tv ta tb) K hT (bd (.inr s) (mstS K 28)) hP1 0 99 (by decide) (by decide) (by omega)) (px_fitS (by omega)) rfl rfl rfl (Nat.le_of_ble_eq_true rfl) (fun r9 W9 hp9 hl9 => ?_)
        obtain ⟨rv2, x2, rfl, hc2, hP2, rfl, hx2⟩ := hp9
        show XG _ _ _ _ _ _ [(.int x2), (.ref 6)] (dW rv2 ra rb (.ref 6) (xW tv ta tb))
        refine XG.blk tX3_parseNumber_ok 40 1 (pc' := 83) (pl' := [some (.ref 0), some (.int (nI 136))]) (st' := []) (W1 := (dW rv2 ra rb (.ref 6) (xW (va_up tv 5 x2) ta tb))) (bs := []) rfl rfl rfl ?_
        refine XG.goto eX3_parseNumber_83 (tgt := 121) (by decide) ?_
        refine XS.vret eX3_parseNumber_121 rfl ?_
        rw [bd_mst hk] at hP2 hx2
        refine ⟨_, _, _, _, rfl, (hc1.mono (by decide)).tr hc2, ⟨hP2, hfq.cg rfl rfl, fun s3 h3 => ?_⟩, rfl⟩
        obtain ⟨s1, g1, g2⟩ := bd_inrE h3
        obtain rfl := adv_s g1
        rw [hx2 _ _ g1 g2]
        exact hR.n36 (by have := (bndS_inr g2).2.2; omega)
    · exfalso
      have h32 := Decidable.not_not.mp h32
      have g32 : 136 = 135 := (nI_eq (a := 136) (b := 135) (by omega) (by omega)).mp h32
      omega
  · exfalso
    have h4 := Decidable.not_not.mp h4
    have g4 : 136 = 128 := (nI_eq (a := 136) (b := 128) (by omega) (by omega)).mp h4
    omega
set_option maxHeartbeats 1000000 in
theorem cc_num29 (d : Nat) (rv : Nat → Int32) (ra : Nat → Nat → Int32) (rb : Nat → Nat → Int64) (tv : Nat → Int32) (ta : Nat → Nat → Int32) (tb : Nat → Nat → Int64) (K : TKS) (hT : CTk K ra rb) (s : PT) (hP : PVc K (.inr s) rv) (S : SD) (hR : RDc S s.1 tv ta tb) (hk : K.1 s.1 = 29) (hd : 2 ≤ d) : Con mX3_parseNumber d [.ref 0, .int (nI 137)] (dW rv ra rb (.ref 6) (xW tv ta tb)) (fun q W' => ∃ rv' tv' ta' tb', W' = dW rv' ra rb (.ref 6) (xW tv' ta' tb') ∧ chg [1, 8, 9, 10, 11] rv rv' ∧ RPc K (bd (advS s) (bndS K 0 9999)) (va_up S.1 37 (K.2.2.1 (s.1 + 1)), S.2) rv' tv' ta' tb' ∧ q = none) := by
  have hfq := hR.fq hP.1
  refine Con.of (by decide) (Nat.le_of_ble_eq_true rfl) ?_
  refine XG.blk tX3_parseNumber_ok 0 2 (pc' := 4) (pl' := [some (.ref 0), some (.int (nI 137))]) (st' := [(.int (nI 128)), (.int (nI 137))]) (W1 := (dW rv ra rb (.ref 6) (xW tv ta tb))) (bs := []) rfl rfl rfl ?_
  refine XG.br eX3_parseNumber_4 (P := ¬ (nI 137) = (nI 128)) (r := []) rfl (tgt := 28) (by decide) (fun h4 => ?_) (fun h4 => ?_)
  · skip
    have g4 : ¬ 137 = 128 := (fun z_9 => h4 ((nI_eq (a := 137) (b := 128) (by omega) (by omega)).mpr z_9))
    refine XG.blk tX3_parseNumber_ok 14 2 (pc' := 32) (pl' := [some (.ref 0), some (.int (nI 137))]) (st' := [(.int (nI 135)), (.int (nI 137))]) (W1 := (dW rv ra rb (.ref 6) (xW tv ta tb))) (bs := []) rfl rfl rfl ?_
    refine XG.br eX3_parseNumber_32 (P := ¬ (nI 137) = (nI 135)) (r := []) rfl (tgt := 57) (by decide) (fun h32 => ?_) (fun h32 => ?_)
    · skip
      have g32 : ¬ 137 = 135 := (fun z_9 => h32 ((nI_eq (a := 137) (b := 135) (by omega) (by omega)).mpr z_9))
      refine XG.blk tX3_parseNumber_ok 28 2 (pc' := 61) (pl' := [some (.ref 0), some (.int (nI 137))]) (st' := [(.int (nI 136)), (.int (nI 137))]) (W1 := (dW rv ra rb (.ref 6) (xW tv ta tb))) (bs := []) rfl rfl rfl ?_
      refine XG.br eX3_parseNumber_61 (P := ¬ (nI 137) = (nI 136)) (r := []) rfl (tgt := 86) (by decide) (fun h61 => ?_) (fun h61 => ?_)
      · skip
        have g61 : ¬ 137 = 136 := (fun z_9 => h61 ((nI_eq (a := 137) (b := 136) (by omega) (by omega)).mpr z_9))
        refine XG.blk tX3_parseNumber_ok 42 2 (pc' := 90) (pl' := [some (.ref 0), some (.int (nI 137))]) (st' := [(.int (nI 137)), (.int (nI 137))]) (W1 := (dW rv ra rb (.ref 6) (xW tv ta tb))) (bs := []) rfl rfl rfl ?_
        refine XG.br eX3_parseNumber_90 (P := ¬ (nI 137) = (nI 137)) (r := []) rfl (tgt := 116) (by decide) (fun h90 => ?_) (fun h90 => ?_)
        · exfalso
          have g90 : ¬ 137 = 137 := (fun z_9 => h90 ((nI_eq (a := 137) (b := 137) (by omega) (by omega)).mpr z_9))
          omega
        · skip
          have h90 := Decidable.not_not.mp h90
          have g90 : 137 = 137 := (nI_eq (a := 137) (b := 137) (by omega) (by omega)).mp h90
          refine XG.blk tX3_parseNumber_ok 45 2 (pc' := 95) (pl' := [some (.ref 0), some (.int (nI 137))]) (st' := [(.int (nI 137)), (.ref 0)]) (W1 := (dW rv ra rb (.ref 6) (xW tv ta tb))) (bs := []) rfl rfl rfl ?_
          refine XG.callV0 eX3_parseNumber_95 kl_X3_130 (cc_take (d - 1) rv ra rb (.ref 6) (xW tv ta tb) K hT (.inr s) hP 29 (by unfold vk; omega) (by decide)) (px_fitS (by omega)) rfl rfl rfl (Nat.le_of_ble_eq_true rfl) (fun r9 W9 hp9 hl9 => ?_)
          obtain ⟨rv1, rfl, hc1, hP1, rfl⟩ := hp9
          show XG _ _ _ _ _ _ [] (dW rv1 ra rb (.ref 6) (xW tv ta tb))
          refine XG.blk tX3_parseNumber_ok 48 5 (pc' := 107) (pl' := [some (.ref 0), some (.int (nI 137))]) (st' := [(.int (nI 9999)), (.int (nI 0)), (.ref 0), (.ref 6)]) (W1 := (dW rv1 ra rb (.ref 6) (xW tv ta tb))) (bs := []) rfl rfl rfl ?_
          refine XG.callV0 eX3_parseNumber_107 kl_X3_133 (cc_takeInt (d - 1) rv1 ra rb (.ref 6) (xW tv ta tb) K hT (bd (.inr s) (mstS K 29)) hP1 0 9999 (by decide) (by decide) (by omega)) (px_fitS (by omega)) rfl rfl rfl (Nat.le_of_ble_eq_true rfl) (fun r9 W9 hp9 hl9 => ?_)
          obtain ⟨rv2, x2, rfl, hc2, hP2, rfl, hx2⟩ := hp9
          show XG _ _ _ _ _ _ [(.int x2), (.ref 6)] (dW rv2 ra rb (.ref 6) (xW tv ta tb))
          refine XG.blk tX3_parseNumber_ok 54 1 (pc' := 113) (pl' := [some (.ref 0), some (.int (nI 137))]) (st' := []) (W1 := (dW rv2 ra rb (.ref 6) (xW (va_up tv 6 x2) ta tb))) (bs := []) rfl rfl rfl ?_
          refine XG.goto eX3_parseNumber_113 (tgt := 121) (by decide) ?_
          refine XS.vret eX3_parseNumber_121 rfl ?_
          rw [bd_mst hk] at hP2 hx2
          refine ⟨_, _, _, _, rfl, (hc1.mono (by decide)).tr hc2, ⟨hP2, hfq.cg rfl rfl, fun s3 h3 => ?_⟩, rfl⟩
          obtain ⟨s1, g1, g2⟩ := bd_inrE h3
          obtain rfl := adv_s g1
          rw [hx2 _ _ g1 g2]
          exact hR.n37 (by have := (bndS_inr g2).2.2; omega)
      · exfalso
        have h61 := Decidable.not_not.mp h61
        have g61 : 137 = 136 := (nI_eq (a := 137) (b := 136) (by omega) (by omega)).mp h61
        omega
    · exfalso
      have h32 := Decidable.not_not.mp h32
      have g32 : 137 = 135 := (nI_eq (a := 137) (b := 135) (by omega) (by omega)).mp h32
      omega
  · exfalso
    have h4 := Decidable.not_not.mp h4
    have g4 : 137 = 128 := (nI_eq (a := 137) (b := 128) (by omega) (by omega)).mp h4
    omega
set_option maxHeartbeats 1000000 in
theorem cc_numF (d : Nat) (rv : Nat → Int32) (ra : Nat → Nat → Int32) (rb : Nat → Nat → Int64) (tv : Nat → Int32) (ta : Nat → Nat → Int32) (tb : Nat → Nat → Int64) (K : TKS) (hT : CTk K ra rb) (s : PT) (hP : PVc K (.inr s) rv) (S : SD) (hR : RDc S s.1 tv ta tb) (n : Nat) (hn : n < 256) (h1 : n ≠ 128) (h2 : n ≠ 135) (h3 : n ≠ 136) (h4 : n ≠ 137) (hd : 1 ≤ d) : Con mX3_parseNumber d [.ref 0, .int (nI n)] (dW rv ra rb (.ref 6) (xW tv ta tb)) (fun q W' => ∃ rv' tv' ta' tb', W' = dW rv' ra rb (.ref 6) (xW tv' ta' tb') ∧ chg [1, 8, 9, 10, 11] rv rv' ∧ RPc K (.inl (1, s.1)) S rv' tv' ta' tb' ∧ q = none) := by
  have hfq := hR.fq hP.1
  refine Con.of (by decide) (Nat.le_of_ble_eq_true rfl) ?_
  refine XG.blk tX3_parseNumber_ok 0 2 (pc' := 4) (pl' := [some (.ref 0), some (.int (nI n))]) (st' := [(.int (nI 128)), (.int (nI n))]) (W1 := (dW rv ra rb (.ref 6) (xW tv ta tb))) (bs := []) rfl rfl rfl ?_
  refine XG.br eX3_parseNumber_4 (P := ¬ (nI n) = (nI 128)) (r := []) rfl (tgt := 28) (by decide) (fun h4 => ?_) (fun h4 => ?_)
  · skip
    have g4 : ¬ n = 128 := (fun z_9 => h4 ((nI_eq (a := n) (b := 128) (by omega) (by omega)).mpr z_9))
    refine XG.blk tX3_parseNumber_ok 14 2 (pc' := 32) (pl' := [some (.ref 0), some (.int (nI n))]) (st' := [(.int (nI 135)), (.int (nI n))]) (W1 := (dW rv ra rb (.ref 6) (xW tv ta tb))) (bs := []) rfl rfl rfl ?_
    refine XG.br eX3_parseNumber_32 (P := ¬ (nI n) = (nI 135)) (r := []) rfl (tgt := 57) (by decide) (fun h32 => ?_) (fun h32 => ?_)
    · skip
      have g32 : ¬ n = 135 := (fun z_9 => h32 ((nI_eq (a := n) (b := 135) (by omega) (by omega)).mpr z_9))
      refine XG.blk tX3_parseNumber_ok 28 2 (pc' := 61) (pl' := [some (.ref 0), some (.int (nI n))]) (st' := [(.int (nI 136)), (.int (nI n))]) (W1 := (dW rv ra rb (.ref 6) (xW tv ta tb))) (bs := []) rfl rfl rfl ?_
      refine XG.br eX3_parseNumber_61 (P := ¬ (nI n) = (nI 136)) (r := []) rfl (tgt := 86) (by decide) (fun h61 => ?_) (fun h61 => ?_)
      · skip
        have g61 : ¬ n = 136 := (fun z_9 => h61 ((nI_eq (a := n) (b := 136) (by omega) (by omega)).mpr z_9))
        refine XG.blk tX3_parseNumber_ok 42 2 (pc' := 90) (pl' := [some (.ref 0), some (.int (nI n))]) (st' := [(.int (nI 137)), (.int (nI n))]) (W1 := (dW rv ra rb (.ref 6) (xW tv ta tb))) (bs := []) rfl rfl rfl ?_
        refine XG.br eX3_parseNumber_90 (P := ¬ (nI n) = (nI 137)) (r := []) rfl (tgt := 116) (by decide) (fun h90 => ?_) (fun h90 => ?_)
        · skip
          have g90 : ¬ n = 137 := (fun z_9 => h90 ((nI_eq (a := n) (b := 137) (by omega) (by omega)).mpr z_9))
          refine XG.blk tX3_parseNumber_ok 56 2 (pc' := 118) (pl' := [some (.ref 0), some (.int (nI n))]) (st' := [(.int (nI 1)), (.ref 0)]) (W1 := (dW rv ra rb (.ref 6) (xW tv ta tb))) (bs := []) rfl rfl rfl ?_
          refine XG.callV0 eX3_parseNumber_118 kl_X3_149 (cc_fail (d - 1) rv ra rb (.ref 6) (xW tv ta tb) K hT (.inr s) hP 1 (by decide)) (px_fitS (by omega)) rfl rfl rfl (Nat.le_of_ble_eq_true rfl) (fun r9 W9 hp9 hl9 => ?_)
          obtain ⟨rv1, rfl, hc1, hP1, rfl⟩ := hp9
          show XG _ _ _ _ _ _ [] (dW rv1 ra rb (.ref 6) (xW tv ta tb))
          refine XS.vret eX3_parseNumber_121 rfl ?_
          exact ⟨_, _, _, _, rfl, hc1.mono (by decide), ⟨hP1, hfq, fun s3 h3 => by cases h3⟩, rfl⟩
        · exfalso
          have h90 := Decidable.not_not.mp h90
          have g90 : n = 137 := (nI_eq (a := n) (b := 137) (by omega) (by omega)).mp h90
          omega
      · exfalso
        have h61 := Decidable.not_not.mp h61
        have g61 : n = 136 := (nI_eq (a := n) (b := 136) (by omega) (by omega)).mp h61
        omega
    · exfalso
      have h32 := Decidable.not_not.mp h32
      have g32 : n = 135 := (nI_eq (a := n) (b := 135) (by omega) (by omega)).mp h32
      omega
  · exfalso
    have h4 := Decidable.not_not.mp h4
    have g4 : n = 128 := (nI_eq (a := n) (b := 128) (by omega) (by omega)).mp h4
    omega
theorem upCN {f : Nat → Int32} {h : Nat → Nat} {n : Nat} {x : Nat} (hf : ∀ i, i < n → f i = nI (h i)) : ∀ i, i < n + 1 → upd f n (nI x) i = nI (va_up h n x i) := by
  intro i hi
  unfold va_up
  by_cases e : i = n
  · rw [if_pos e, e, upd_eq]
  · rw [if_neg e, upd_ne e]; exact hf i (by omega)
theorem RDc.sl {K : TKS} {S : SD} {t t' : Nat} {tv : Nat → Int32} {ta : Nat → Nat → Int32} {tb : Nat → Nat → Int64} (h : RDc S t tv ta tb) (ht : t ≤ t') (h6 : S.1 24 < 6) (q : Nat) (hq : vNm (K.2.2.2 q)) (x1 x2 x3 x4 : Nat) : RDc (va_up S.1 24 (S.1 24 + 1), up2 (up2 (up2 (up2 S.2.1 25 (S.1 24) x1) 26 (S.1 24) x2) 27 (S.1 24) x3) 28 (S.1 24) x4, S.2.2.1 ++ [(K.2.2.2 q, some (S.1 24))], S.2.2.2) t' (va_up tv 1 (nI (S.1 24 + 1))) (va_up (va_up (va_up (va_up ta 8 (upd (ta 8) (S.1 24) (nI x1))) 9 (upd (ta 9) (S.1 24) (nI x2))) 10 (upd (ta 10) (S.1 24) (nI x3))) 11 (upd (ta 11) (S.1 24) (nI x4))) (va_up tb 7 (vp_updL (tb 7) (S.1 24) (lN (enc 32 (K.2.2.2 q))))) := by
  obtain ⟨h1, h2, h3, h4, h5, h7, hl1, hl2, hl3, hl4, hl5, hl6⟩ := h
  refine ⟨⟨h1.1, rfl, h1.2.2⟩, fun i hi => ⟨?_, ?_, ?_, ?_⟩, h3, h4, h5.cg ht rfl rfl rfl rfl, h7.sl hq hl1.symm rfl rfl, ?_, ?_, ?_, hl4, hl5, hl6⟩
  · exact upCN (fun i hi => (h2 i hi).1) i hi
  · exact upCN (fun i hi => (h2 i hi).2.1) i hi
  · exact upCN (fun i hi => (h2 i hi).2.2.1) i hi
  · exact upCN (fun i hi => (h2 i hi).2.2.2) i hi
  · show (slN (S.2.2.1 ++ [(K.2.2.2 q, some (S.1 24))])).length = S.1 24 + 1
    rw [(slN_s _ _ _).1, List.length_append, hl1]; rfl
  · show (crN (S.2.2.1 ++ [(K.2.2.2 q, some (S.1 24))])).length = S.1 31
    rw [(slN_s _ _ _).2, hl2]
  · show S.1 24 + 1 ≤ 6; omega
theorem RDc.cr {K : TKS} {S : SD} {t t' : Nat} {tv : Nat → Int32} {ta : Nat → Nat → Int32} {tb : Nat → Nat → Int64} (h : RDc S t tv ta tb) (ht : t ≤ t') (h6 : S.1 31 < 5) (q : Nat) (hq : vNm (K.2.2.2 q)) (x1 x2 x3 : Nat) : RDc (va_up S.1 31 (S.1 31 + 1), up2 (up2 (up2 S.2.1 32 (S.1 31) x1) 33 (S.1 31) x2) 34 (S.1 31) x3, S.2.2.1 ++ [(K.2.2.2 q, none)], S.2.2.2) t' (va_up tv 3 (nI (S.1 31 + 1))) (va_up (va_up (va_up ta 14 (upd (ta 14) (S.1 31) (nI x1))) 15 (upd (ta 15) (S.1 31) (nI x2))) 16 (upd (ta 16) (S.1 31) (nI x3))) (va_up tb 13 (vp_updL (tb 13) (S.1 31) (lN (enc 32 (K.2.2.2 q))))) := by
  obtain ⟨h1, h2, h3, h4, h5, h7, hl1, hl2, hl3, hl4, hl5, hl6⟩ := h
  refine ⟨⟨h1.1, h1.2.1, h1.2.2.1, rfl, h1.2.2.2.2⟩, h2, fun i hi => ⟨?_, ?_, ?_⟩, h4, h5.cg ht rfl rfl rfl rfl, h7.cr hq hl2.symm rfl rfl, ?_, ?_, hl3, ?_, hl5, hl6⟩
  · exact upCN (fun i hi => (h3 i hi).1) i hi
  · exact upCN (fun i hi => (h3 i hi).2.1) i hi
  · exact upCN (fun i hi => (h3 i hi).2.2) i hi
  · show (slN (S.2.2.1 ++ [(K.2.2.2 q, none)])).length = S.1 24
    rw [(slN_c _ _).1, hl1]
  · show (crN (S.2.2.1 ++ [(K.2.2.2 q, none)])).length = S.1 31 + 1
    rw [(slN_c _ _).2, List.length_append, hl2]; rfl
  · show S.1 31 + 1 ≤ 5; omega
theorem name_s {K : TKS} {nl : NmL} {s s1 : PT} (h : nameS K nl s = .inr s1) : s1.1 = s.1 + 1 := (nameS_inr h).2.2
theorem bnd_s {K : TKS} {lo hi : Nat} {s s1 : PT} (h : bndS K lo hi s = .inr s1) : s1.1 = s.1 + 1 := (bndS_inr h).2.2
set_option maxHeartbeats 1000000 in
theorem cc_parseSleeper (d : Nat) (rv : Nat → Int32) (ra : Nat → Nat → Int32) (rb : Nat → Nat → Int64) (tv : Nat → Int32) (ta : Nat → Nat → Int32) (tb : Nat → Nat → Int64) (K : TKS) (hT : CTk K ra rb) (s : PT) (hP : PVc K (.inr s) rv) (S : SD) (hR : RDc S s.1 tv ta tb) (hk : K.1 s.1 = 21) (hd : 3 ≤ d) : Con mX3_parseSleeper d [.ref 0] (dW rv ra rb (.ref 6) (xW tv ta tb)) (fun q W' => ∃ rv' tv' ta' tb', W' = dW rv' ra rb (.ref 6) (xW tv' ta' tb') ∧ chg [1, 8, 9, 10, 11] rv rv' ∧ RPc K (if S.1 24 = 6 then .inl (2, s.1) else (bd (bd (bd (bd (bd (advS s) (nameS K S.2.2.1)) (bndS K 0 99)) (bndS K 0 9)) (bndS K 0 9)) (bndS K 0 4))) (va_up S.1 24 (S.1 24 + 1), up2 (up2 (up2 (up2 S.2.1 25 (S.1 24) (K.2.2.1 (s.1 + 1 + 1))) 26 (S.1 24) (K.2.2.1 (s.1 + 1 + 2))) 27 (S.1 24) (K.2.2.1 (s.1 + 1 + 3))) 28 (S.1 24) (K.2.2.1 (s.1 + 1 + 4)), S.2.2.1 ++ [(K.2.2.2 (s.1 + 1), some (S.1 24))], S.2.2.2) rv' tv' ta' tb' ∧ q = none) := by
  have hfq := hR.fq hP.1
  obtain ⟨h1, h2, h3, h4, h5, hNm, hl1, hl2, hl3, hl4, hl5, hl6⟩ := id hR
  have hm : tv 1 = nI (slN S.2.2.1).length := by rw [hl1]; exact h1.2.1
  have hm2 : (slN S.2.2.1).length ≤ 6 := by omega
  have hcq : tv 3 = nI (crN S.2.2.1).length := by rw [hl2]; exact h1.2.2.2.1
  have hcq2 : (crN S.2.2.1).length ≤ 5 := by omega
  refine Con.of (by decide) (Nat.le_of_ble_eq_true rfl) ?_
  have q1 : (tv 1) = (nI (S.1 24)) := h1.2.1
  refine XG.blk tX3_parseSleeper_ok 0 6 (pc' := 11) (pl' := [some (.ref 0), some (.int (tv 1))]) (st' := [(.int (nI 6)), (.int (tv 1))]) (W1 := (dW rv ra rb (.ref 6) (xW tv ta tb))) (bs := []) rfl rfl rfl ?_
  simp only [q1]
  refine XG.br eX3_parseSleeper_11 (P := ¬ (nI (S.1 24)) = (nI 6)) (r := []) rfl (tgt := 20) (by decide) (fun h11 => ?_) (fun h11 => ?_)
  · skip
    have g11 : ¬ (S.1 24) = 6 := (fun z_9 => h11 ((nI_eq (a := (S.1 24)) (b := 6) (by omega) (by omega)).mpr z_9))
    refine XG.blk tX3_parseSleeper_ok 11 2 (pc' := 24) (pl' := [some (.ref 0), some (.int (nI (S.1 24)))]) (st' := [(.int (nI 129)), (.ref 0)]) (W1 := (dW rv ra rb (.ref 6) (xW tv ta tb))) (bs := []) rfl rfl rfl ?_
    refine XG.callV0 eX3_parseSleeper_24 kl_X3_130 (cc_take (d - 1) rv ra rb (.ref 6) (xW tv ta tb) K hT (.inr s) hP 21 (by unfold vk; omega) (by decide)) (px_fitS (by omega)) rfl rfl rfl (Nat.le_of_ble_eq_true rfl) (fun r9 W9 hp9 hl9 => ?_)
    obtain ⟨rv1, rfl, hc1, hP1, rfl⟩ := hp9
    show XG _ _ _ _ _ _ [] (dW rv1 ra rb (.ref 6) (xW tv ta tb))
    refine XG.blk tX3_parseSleeper_ok 14 5 (pc' := 36) (pl' := [some (.ref 0), some (.int (nI (S.1 24)))]) (st' := [(.ref 0), (.int (nI (S.1 24))), (.ref 7)]) (W1 := (dW rv1 ra rb (.ref 6) (xW tv ta tb))) (bs := []) rfl rfl rfl ?_
    refine XG.callV0 eX3_parseSleeper_36 kl_X3_158 (cc_takeNewName (d - 1) rv1 ra rb tv ta tb K hT (bd (.inr s) (mstS K 21)) hP1 S.2.2.1 hNm hm hm2 hcq hcq2 (by omega)) (px_fitS (by omega)) rfl rfl rfl (Nat.le_of_ble_eq_true rfl) (fun r9 W9 hp9 hl9 => ?_)
    obtain ⟨rv2, x2, rfl, hc2, hP2, rfl, hx2⟩ := hp9
    show XG _ _ _ _ _ _ [(.long x2), (.int (nI (S.1 24))), (.ref 7)] (dW rv2 ra rb (.ref 6) (xW tv ta tb))
    have q2 : (nI (S.1 24)).toNatClampNeg = (S.1 24) := nI_clamp (by omega)
    refine XG.blk tX3_parseSleeper_ok 20 8 (pc' := 52) (pl' := [some (.ref 0), some (.int (nI (S.1 24)))]) (st' := [(.int (nI 99)), (.int (nI 0)), (.ref 0), (.int (nI (S.1 24))), (.ref 8)]) (W1 := (dW rv2 ra rb (.ref 6) (xW tv ta (va_up tb 7 (vp_updL (tb 7) (nI (S.1 24)).toNatClampNeg x2))))) (bs := [px_vb (nI (S.1 24)) 6]) rfl rfl (by (try simp only [q2]); exact (px_all (px_vbN (by omega) (by decide)) rfl)) ?_
    simp only [q2]
    refine XG.callV0 eX3_parseSleeper_52 kl_X3_133 (cc_takeInt (d - 1) rv2 ra rb (.ref 6) (xW tv ta (va_up tb 7 (vp_updL (tb 7) (S.1 24) x2))) K hT (bd (bd (.inr s) (mstS K 21)) (nameS K S.2.2.1)) hP2 0 99 (by decide) (by decide) (by omega)) (px_fitS (by omega)) rfl rfl rfl (Nat.le_of_ble_eq_true rfl) (fun r9 W9 hp9 hl9 => ?_)
    obtain ⟨rv3, x3, rfl, hc3, hP3, rfl, hx3⟩ := hp9
    show XG _ _ _ _ _ _ [(.int x3), (.int (nI (S.1 24))), (.ref 8)] (dW rv3 ra rb (.ref 6) (xW tv ta (va_up tb 7 (vp_updL (tb 7) (S.1 24) x2))))
    have q3 : (nI (S.1 24)).toNatClampNeg = (S.1 24) := nI_clamp (by omega)
    refine XG.blk tX3_parseSleeper_ok 29 8 (pc' := 68) (pl' := [some (.ref 0), some (.int (nI (S.1 24)))]) (st' := [(.int (nI 9)), (.int (nI 0)), (.ref 0), (.int (nI (S.1 24))), (.ref 9)]) (W1 := (dW rv3 ra rb (.ref 6) (xW tv (va_up ta 8 (upd (ta 8) (nI (S.1 24)).toNatClampNeg x3)) (va_up tb 7 (vp_updL (tb 7) (S.1 24) x2))))) (bs := [px_vb (nI (S.1 24)) 6]) rfl rfl (by (try simp only [q3]); exact (px_all (px_vbN (by omega) (by decide)) rfl)) ?_
    simp only [q3]
    refine XG.callV0 eX3_parseSleeper_68 kl_X3_133 (cc_takeInt (d - 1) rv3 ra rb (.ref 6) (xW tv (va_up ta 8 (upd (ta 8) (S.1 24) x3)) (va_up tb 7 (vp_updL (tb 7) (S.1 24) x2))) K hT (bd (bd (bd (.inr s) (mstS K 21)) (nameS K S.2.2.1)) (bndS K 0 99)) hP3 0 9 (by decide) (by decide) (by omega)) (px_fitS (by omega)) rfl rfl rfl (Nat.le_of_ble_eq_true rfl) (fun r9 W9 hp9 hl9 => ?_)
    obtain ⟨rv4, x4, rfl, hc4, hP4, rfl, hx4⟩ := hp9
    show XG _ _ _ _ _ _ [(.int x4), (.int (nI (S.1 24))), (.ref 9)] (dW rv4 ra rb (.ref 6) (xW tv (va_up ta 8 (upd (ta 8) (S.1 24) x3)) (va_up tb 7 (vp_updL (tb 7) (S.1 24) x2))))
    have q4 : (nI (S.1 24)).toNatClampNeg = (S.1 24) := nI_clamp (by omega)
    refine XG.blk tX3_parseSleeper_ok 38 8 (pc' := 84) (pl' := [some (.ref 0), some (.int (nI (S.1 24)))]) (st' := [(.int (nI 9)), (.int (nI 0)), (.ref 0), (.int (nI (S.1 24))), (.ref 10)]) (W1 := (dW rv4 ra rb (.ref 6) (xW tv (va_up (va_up ta 8 (upd (ta 8) (S.1 24) x3)) 9 (upd (ta 9) (nI (S.1 24)).toNatClampNeg x4)) (va_up tb 7 (vp_updL (tb 7) (S.1 24) x2))))) (bs := [px_vb (nI (S.1 24)) 6]) rfl rfl (by (try simp only [q4]); exact (px_all (px_vbN (by omega) (by decide)) rfl)) ?_
    simp only [q4]
    refine XG.callV0 eX3_parseSleeper_84 kl_X3_133 (cc_takeInt (d - 1) rv4 ra rb (.ref 6) (xW tv (va_up (va_up ta 8 (upd (ta 8) (S.1 24) x3)) 9 (upd (ta 9) (S.1 24) x4)) (va_up tb 7 (vp_updL (tb 7) (S.1 24) x2))) K hT (bd (bd (bd (bd (.inr s) (mstS K 21)) (nameS K S.2.2.1)) (bndS K 0 99)) (bndS K 0 9)) hP4 0 9 (by decide) (by decide) (by omega)) (px_fitS (by omega)) rfl rfl rfl (Nat.le_of_ble_eq_true rfl) (fun r9 W9 hp9 hl9 => ?_)
    obtain ⟨rv5, x5, rfl, hc5, hP5, rfl, hx5⟩ := hp9
    show XG _ _ _ _ _ _ [(.int x5), (.int (nI (S.1 24))), (.ref 10)] (dW rv5 ra rb (.ref 6) (xW tv (va_up (va_up ta 8 (upd (ta 8) (S.1 24) x3)) 9 (upd (ta 9) (S.1 24) x4)) (va_up tb 7 (vp_updL (tb 7) (S.1 24) x2))))
    have q5 : (nI (S.1 24)).toNatClampNeg = (S.1 24) := nI_clamp (by omega)
    refine XG.blk tX3_parseSleeper_ok 47 8 (pc' := 99) (pl' := [some (.ref 0), some (.int (nI (S.1 24)))]) (st' := [(.int (nI 4)), (.int (nI 0)), (.ref 0), (.int (nI (S.1 24))), (.ref 11)]) (W1 := (dW rv5 ra rb (.ref 6) (xW tv (va_up (va_up (va_up ta 8 (upd (ta 8) (S.1 24) x3)) 9 (upd (ta 9) (S.1 24) x4)) 10 (upd (ta 10) (nI (S.1 24)).toNatClampNeg x5)) (va_up tb 7 (vp_updL (tb 7) (S.1 24) x2))))) (bs := [px_vb (nI (S.1 24)) 6]) rfl rfl (by (try simp only [q5]); exact (px_all (px_vbN (by omega) (by decide)) rfl)) ?_
    simp only [q5]
    refine XG.callV0 eX3_parseSleeper_99 kl_X3_133 (cc_takeInt (d - 1) rv5 ra rb (.ref 6) (xW tv (va_up (va_up (va_up ta 8 (upd (ta 8) (S.1 24) x3)) 9 (upd (ta 9) (S.1 24) x4)) 10 (upd (ta 10) (S.1 24) x5)) (va_up tb 7 (vp_updL (tb 7) (S.1 24) x2))) K hT (bd (bd (bd (bd (bd (.inr s) (mstS K 21)) (nameS K S.2.2.1)) (bndS K 0 99)) (bndS K 0 9)) (bndS K 0 9)) hP5 0 4 (by decide) (by decide) (by omega)) (px_fitS (by omega)) rfl rfl rfl (Nat.le_of_ble_eq_true rfl) (fun r9 W9 hp9 hl9 => ?_)
    obtain ⟨rv6, x6, rfl, hc6, hP6, rfl, hx6⟩ := hp9
    show XG _ _ _ _ _ _ [(.int x6), (.int (nI (S.1 24))), (.ref 11)] (dW rv6 ra rb (.ref 6) (xW tv (va_up (va_up (va_up ta 8 (upd (ta 8) (S.1 24) x3)) 9 (upd (ta 9) (S.1 24) x4)) 10 (upd (ta 10) (S.1 24) x5)) (va_up tb 7 (vp_updL (tb 7) (S.1 24) x2))))
    have q6 : (nI (S.1 24)).toNatClampNeg = (S.1 24) := nI_clamp (by omega)
    have q7 : (tv 1) = (nI (S.1 24)) := h1.2.1
    have q8 : ((nI (S.1 24)) + (nI 1)) = (nI ((S.1 24) + 1)) := px_eadd rfl rfl
    refine XG.blk tX3_parseSleeper_ok 56 8 (pc' := 116) (pl' := [some (.ref 0), some (.int (nI (S.1 24)))]) (st' := []) (W1 := (dW rv6 ra rb (.ref 6) (xW (va_up tv 1 ((tv 1) + (nI 1))) (va_up (va_up (va_up (va_up ta 8 (upd (ta 8) (S.1 24) x3)) 9 (upd (ta 9) (S.1 24) x4)) 10 (upd (ta 10) (S.1 24) x5)) 11 (upd (ta 11) (nI (S.1 24)).toNatClampNeg x6)) (va_up tb 7 (vp_updL (tb 7) (S.1 24) x2))))) (bs := [px_vb (nI (S.1 24)) 6]) rfl rfl (by (try simp only [q6, q7, q8]); exact (px_all (px_vbN (by omega) (by decide)) rfl)) ?_
    simp only [q6, q7, q8]
    refine XS.vret eX3_parseSleeper_116 rfl ?_
    rw [bd_mst hk] at hP2 hP3 hP4 hP5 hP6 hx2 hx3 hx4 hx5 hx6
    refine ⟨_, _, _, _, rfl, (hc1.mono (by decide)).tr (hc2.tr (hc3.tr (hc4.tr (hc5.tr hc6)))), ?_, rfl⟩
    rw [if_neg g11]
    refine ⟨hP6, ?_, fun s6 h6 => ?_⟩
    · obtain ⟨m, sz, f1, f2, f3, f4, f5⟩ := hfq
      exact ⟨S.1 24 + 1, sz, rfl, by omega, f3, f4, f5⟩
    · obtain ⟨s5, k5, q5⟩ := bd_inrE h6
      obtain ⟨s4, k4, q4⟩ := bd_inrE k5
      obtain ⟨s3, k3, q3⟩ := bd_inrE k4
      obtain ⟨s2, k2, q2⟩ := bd_inrE k3
      obtain ⟨s1, k1, q1⟩ := bd_inrE k2
      have e1 := adv_s k1
      have e2 := name_s q1
      have e3 := bnd_s q2
      have e4 := bnd_s q3
      have e5 := bnd_s q4
      have e6 := bnd_s q5
      have f1 : s1.1 = s.1 + 1 := by rw [e1]
      obtain ⟨hn1, hn2⟩ := hx2 _ _ k1 q1
      rw [hn1, hx3 _ _ k2 q2, hx4 _ _ k3 q3, hx5 _ _ k4 q4, hx6 _ _ k5 q5, e5, e4, e3, e2, f1]
      rw [f1] at hn2
      exact hR.sl (K := K) (by omega) (by omega) (s.1 + 1) hn2 _ _ _ _
  · skip
    have h11 := Decidable.not_not.mp h11
    have g11 : (S.1 24) = 6 := (nI_eq (a := (S.1 24)) (b := 6) (by omega) (by omega)).mp h11
    refine XG.blk tX3_parseSleeper_ok 7 2 (pc' := 16) (pl' := [some (.ref 0), some (.int (nI (S.1 24)))]) (st' := [(.int (nI 2)), (.ref 0)]) (W1 := (dW rv ra rb (.ref 6) (xW tv ta tb))) (bs := []) rfl rfl rfl ?_
    refine XG.callV0 eX3_parseSleeper_16 kl_X3_149 (cc_fail (d - 1) rv ra rb (.ref 6) (xW tv ta tb) K hT (.inr s) hP 2 (by decide)) (px_fitS (by omega)) rfl rfl rfl (Nat.le_of_ble_eq_true rfl) (fun r9 W9 hp9 hl9 => ?_)
    obtain ⟨rv1, rfl, hc1, hP1, rfl⟩ := hp9
    show XG _ _ _ _ _ _ [] (dW rv1 ra rb (.ref 6) (xW tv ta tb))
    refine XS.vret eX3_parseSleeper_19 rfl ?_
    refine ⟨_, _, _, _, rfl, hc1.mono (by decide), ?_, rfl⟩
    rw [if_pos g11]
    exact ⟨hP1, hfq, fun s3 h3 => by cases h3⟩
set_option maxHeartbeats 1000000 in
theorem cc_parseCrosser (d : Nat) (rv : Nat → Int32) (ra : Nat → Nat → Int32) (rb : Nat → Nat → Int64) (tv : Nat → Int32) (ta : Nat → Nat → Int32) (tb : Nat → Nat → Int64) (K : TKS) (hT : CTk K ra rb) (s : PT) (hP : PVc K (.inr s) rv) (S : SD) (hR : RDc S s.1 tv ta tb) (hk : K.1 s.1 = 23) (hd : 3 ≤ d) : Con mX3_parseCrosser d [.ref 0] (dW rv ra rb (.ref 6) (xW tv ta tb)) (fun q W' => ∃ rv' tv' ta' tb', W' = dW rv' ra rb (.ref 6) (xW tv' ta' tb') ∧ chg [1, 8, 9, 10, 11] rv rv' ∧ RPc K (if S.1 31 = 5 then .inl (2, s.1) else (bd (bd (bd (bd (advS s) (nameS K S.2.2.1)) (bndS K 0 99)) (bndS K 0 9)) (bndS K 0 99))) (va_up S.1 31 (S.1 31 + 1), up2 (up2 (up2 S.2.1 32 (S.1 31) (K.2.2.1 (s.1 + 1 + 1))) 33 (S.1 31) (K.2.2.1 (s.1 + 1 + 2))) 34 (S.1 31) (K.2.2.1 (s.1 + 1 + 3)), S.2.2.1 ++ [(K.2.2.2 (s.1 + 1), none)], S.2.2.2) rv' tv' ta' tb' ∧ q = none) := by
  have hfq := hR.fq hP.1
  obtain ⟨h1, h2, h3, h4, h5, hNm, hl1, hl2, hl3, hl4, hl5, hl6⟩ := id hR
  have hm : tv 1 = nI (slN S.2.2.1).length := by rw [hl1]; exact h1.2.1
  have hm2 : (slN S.2.2.1).length ≤ 6 := by omega
  have hcq : tv 3 = nI (crN S.2.2.1).length := by rw [hl2]; exact h1.2.2.2.1
  have hcq2 : (crN S.2.2.1).length ≤ 5 := by omega
  refine Con.of (by decide) (Nat.le_of_ble_eq_true rfl) ?_
  have q1 : (tv 3) = (nI (S.1 31)) := h1.2.2.2.1
  refine XG.blk tX3_parseCrosser_ok 0 6 (pc' := 10) (pl' := [some (.ref 0), some (.int (tv 3))]) (st' := [(.int (nI 5)), (.int (tv 3))]) (W1 := (dW rv ra rb (.ref 6) (xW tv ta tb))) (bs := []) rfl rfl rfl ?_
  simp only [q1]
  refine XG.br eX3_parseCrosser_10 (P := ¬ (nI (S.1 31)) = (nI 5)) (r := []) rfl (tgt := 19) (by decide) (fun h10 => ?_) (fun h10 => ?_)
  · skip
    have g10 : ¬ (S.1 31) = 5 := (fun z_9 => h10 ((nI_eq (a := (S.1 31)) (b := 5) (by omega) (by omega)).mpr z_9))
    refine XG.blk tX3_parseCrosser_ok 11 2 (pc' := 23) (pl' := [some (.ref 0), some (.int (nI (S.1 31)))]) (st' := [(.int (nI 131)), (.ref 0)]) (W1 := (dW rv ra rb (.ref 6) (xW tv ta tb))) (bs := []) rfl rfl rfl ?_
    refine XG.callV0 eX3_parseCrosser_23 kl_X3_130 (cc_take (d - 1) rv ra rb (.ref 6) (xW tv ta tb) K hT (.inr s) hP 23 (by unfold vk; omega) (by decide)) (px_fitS (by omega)) rfl rfl rfl (Nat.le_of_ble_eq_true rfl) (fun r9 W9 hp9 hl9 => ?_)
    obtain ⟨rv1, rfl, hc1, hP1, rfl⟩ := hp9
    show XG _ _ _ _ _ _ [] (dW rv1 ra rb (.ref 6) (xW tv ta tb))
    refine XG.blk tX3_parseCrosser_ok 14 5 (pc' := 35) (pl' := [some (.ref 0), some (.int (nI (S.1 31)))]) (st' := [(.ref 0), (.int (nI (S.1 31))), (.ref 13)]) (W1 := (dW rv1 ra rb (.ref 6) (xW tv ta tb))) (bs := []) rfl rfl rfl ?_
    refine XG.callV0 eX3_parseCrosser_35 kl_X3_158 (cc_takeNewName (d - 1) rv1 ra rb tv ta tb K hT (bd (.inr s) (mstS K 23)) hP1 S.2.2.1 hNm hm hm2 hcq hcq2 (by omega)) (px_fitS (by omega)) rfl rfl rfl (Nat.le_of_ble_eq_true rfl) (fun r9 W9 hp9 hl9 => ?_)
    obtain ⟨rv2, x2, rfl, hc2, hP2, rfl, hx2⟩ := hp9
    show XG _ _ _ _ _ _ [(.long x2), (.int (nI (S.1 31))), (.ref 13)] (dW rv2 ra rb (.ref 6) (xW tv ta tb))
    have q2 : (nI (S.1 31)).toNatClampNeg = (S.1 31) := nI_clamp (by omega)
    refine XG.blk tX3_parseCrosser_ok 20 8 (pc' := 51) (pl' := [some (.ref 0), some (.int (nI (S.1 31)))]) (st' := [(.int (nI 99)), (.int (nI 0)), (.ref 0), (.int (nI (S.1 31))), (.ref 14)]) (W1 := (dW rv2 ra rb (.ref 6) (xW tv ta (va_up tb 13 (vp_updL (tb 13) (nI (S.1 31)).toNatClampNeg x2))))) (bs := [px_vb (nI (S.1 31)) 5]) rfl rfl (by (try simp only [q2]); exact (px_all (px_vbN (by omega) (by decide)) rfl)) ?_
    simp only [q2]
    refine XG.callV0 eX3_parseCrosser_51 kl_X3_133 (cc_takeInt (d - 1) rv2 ra rb (.ref 6) (xW tv ta (va_up tb 13 (vp_updL (tb 13) (S.1 31) x2))) K hT (bd (bd (.inr s) (mstS K 23)) (nameS K S.2.2.1)) hP2 0 99 (by decide) (by decide) (by omega)) (px_fitS (by omega)) rfl rfl rfl (Nat.le_of_ble_eq_true rfl) (fun r9 W9 hp9 hl9 => ?_)
    obtain ⟨rv3, x3, rfl, hc3, hP3, rfl, hx3⟩ := hp9
    show XG _ _ _ _ _ _ [(.int x3), (.int (nI (S.1 31))), (.ref 14)] (dW rv3 ra rb (.ref 6) (xW tv ta (va_up tb 13 (vp_updL (tb 13) (S.1 31) x2))))
    have q3 : (nI (S.1 31)).toNatClampNeg = (S.1 31) := nI_clamp (by omega)
    refine XG.blk tX3_parseCrosser_ok 29 8 (pc' := 67) (pl' := [some (.ref 0), some (.int (nI (S.1 31)))]) (st' := [(.int (nI 9)), (.int (nI 0)), (.ref 0), (.int (nI (S.1 31))), (.ref 15)]) (W1 := (dW rv3 ra rb (.ref 6) (xW tv (va_up ta 14 (upd (ta 14) (nI (S.1 31)).toNatClampNeg x3)) (va_up tb 13 (vp_updL (tb 13) (S.1 31) x2))))) (bs := [px_vb (nI (S.1 31)) 5]) rfl rfl (by (try simp only [q3]); exact (px_all (px_vbN (by omega) (by decide)) rfl)) ?_
    simp only [q3]
    refine XG.callV0 eX3_parseCrosser_67 kl_X3_133 (cc_takeInt (d - 1) rv3 ra rb (.ref 6) (xW tv (va_up ta 14 (upd (ta 14) (S.1 31) x3)) (va_up tb 13 (vp_updL (tb 13) (S.1 31) x2))) K hT (bd (bd (bd (.inr s) (mstS K 23)) (nameS K S.2.2.1)) (bndS K 0 99)) hP3 0 9 (by decide) (by decide) (by omega)) (px_fitS (by omega)) rfl rfl rfl (Nat.le_of_ble_eq_true rfl) (fun r9 W9 hp9 hl9 => ?_)
    obtain ⟨rv4, x4, rfl, hc4, hP4, rfl, hx4⟩ := hp9
    show XG _ _ _ _ _ _ [(.int x4), (.int (nI (S.1 31))), (.ref 15)] (dW rv4 ra rb (.ref 6) (xW tv (va_up ta 14 (upd (ta 14) (S.1 31) x3)) (va_up tb 13 (vp_updL (tb 13) (S.1 31) x2))))
    have q4 : (nI (S.1 31)).toNatClampNeg = (S.1 31) := nI_clamp (by omega)
    refine XG.blk tX3_parseCrosser_ok 38 8 (pc' := 83) (pl' := [some (.ref 0), some (.int (nI (S.1 31)))]) (st' := [(.int (nI 99)), (.int (nI 0)), (.ref 0), (.int (nI (S.1 31))), (.ref 16)]) (W1 := (dW rv4 ra rb (.ref 6) (xW tv (va_up (va_up ta 14 (upd (ta 14) (S.1 31) x3)) 15 (upd (ta 15) (nI (S.1 31)).toNatClampNeg x4)) (va_up tb 13 (vp_updL (tb 13) (S.1 31) x2))))) (bs := [px_vb (nI (S.1 31)) 5]) rfl rfl (by (try simp only [q4]); exact (px_all (px_vbN (by omega) (by decide)) rfl)) ?_
    simp only [q4]
    refine XG.callV0 eX3_parseCrosser_83 kl_X3_133 (cc_takeInt (d - 1) rv4 ra rb (.ref 6) (xW tv (va_up (va_up ta 14 (upd (ta 14) (S.1 31) x3)) 15 (upd (ta 15) (S.1 31) x4)) (va_up tb 13 (vp_updL (tb 13) (S.1 31) x2))) K hT (bd (bd (bd (bd (.inr s) (mstS K 23)) (nameS K S.2.2.1)) (bndS K 0 99)) (bndS K 0 9)) hP4 0 99 (by decide) (by decide) (by omega)) (px_fitS (by omega)) rfl rfl rfl (Nat.le_of_ble_eq_true rfl) (fun r9 W9 hp9 hl9 => ?_)
    obtain ⟨rv5, x5, rfl, hc5, hP5, rfl, hx5⟩ := hp9
    show XG _ _ _ _ _ _ [(.int x5), (.int (nI (S.1 31))), (.ref 16)] (dW rv5 ra rb (.ref 6) (xW tv (va_up (va_up ta 14 (upd (ta 14) (S.1 31) x3)) 15 (upd (ta 15) (S.1 31) x4)) (va_up tb 13 (vp_updL (tb 13) (S.1 31) x2))))
    have q5 : (nI (S.1 31)).toNatClampNeg = (S.1 31) := nI_clamp (by omega)
    have q6 : (tv 3) = (nI (S.1 31)) := h1.2.2.2.1
    have q7 : ((nI (S.1 31)) + (nI 1)) = (nI ((S.1 31) + 1)) := px_eadd rfl rfl
    refine XG.blk tX3_parseCrosser_ok 47 8 (pc' := 100) (pl' := [some (.ref 0), some (.int (nI (S.1 31)))]) (st' := []) (W1 := (dW rv5 ra rb (.ref 6) (xW (va_up tv 3 ((tv 3) + (nI 1))) (va_up (va_up (va_up ta 14 (upd (ta 14) (S.1 31) x3)) 15 (upd (ta 15) (S.1 31) x4)) 16 (upd (ta 16) (nI (S.1 31)).toNatClampNeg x5)) (va_up tb 13 (vp_updL (tb 13) (S.1 31) x2))))) (bs := [px_vb (nI (S.1 31)) 5]) rfl rfl (by (try simp only [q5, q6, q7]); exact (px_all (px_vbN (by omega) (by decide)) rfl)) ?_
    simp only [q5, q6, q7]
    refine XS.vret eX3_parseCrosser_100 rfl ?_
    rw [bd_mst hk] at hP2 hP3 hP4 hP5 hx2 hx3 hx4 hx5
    refine ⟨_, _, _, _, rfl, (hc1.mono (by decide)).tr (hc2.tr (hc3.tr (hc4.tr hc5))), ?_, rfl⟩
    rw [if_neg g10]
    refine ⟨hP5, hfq.cg rfl rfl, fun s5 h6 => ?_⟩
    obtain ⟨s4, k4, q4⟩ := bd_inrE h6
    obtain ⟨s3, k3, q3⟩ := bd_inrE k4
    obtain ⟨s2, k2, q2⟩ := bd_inrE k3
    obtain ⟨s1, k1, q1⟩ := bd_inrE k2
    have e1 := adv_s k1
    have e2 := name_s q1
    have e3 := bnd_s q2
    have e4 := bnd_s q3
    have e5 := bnd_s q4
    have f1 : s1.1 = s.1 + 1 := by rw [e1]
    obtain ⟨hn1, hn2⟩ := hx2 _ _ k1 q1
    rw [hn1, hx3 _ _ k2 q2, hx4 _ _ k3 q3, hx5 _ _ k4 q4, e4, e3, e2, f1]
    rw [f1] at hn2
    exact hR.cr (K := K) (by omega) (by omega) (s.1 + 1) hn2 _ _ _
  · skip
    have h10 := Decidable.not_not.mp h10
    have g10 : (S.1 31) = 5 := (nI_eq (a := (S.1 31)) (b := 5) (by omega) (by omega)).mp h10
    refine XG.blk tX3_parseCrosser_ok 7 2 (pc' := 15) (pl' := [some (.ref 0), some (.int (nI (S.1 31)))]) (st' := [(.int (nI 2)), (.ref 0)]) (W1 := (dW rv ra rb (.ref 6) (xW tv ta tb))) (bs := []) rfl rfl rfl ?_
    refine XG.callV0 eX3_parseCrosser_15 kl_X3_149 (cc_fail (d - 1) rv ra rb (.ref 6) (xW tv ta tb) K hT (.inr s) hP 2 (by decide)) (px_fitS (by omega)) rfl rfl rfl (Nat.le_of_ble_eq_true rfl) (fun r9 W9 hp9 hl9 => ?_)
    obtain ⟨rv1, rfl, hc1, hP1, rfl⟩ := hp9
    show XG _ _ _ _ _ _ [] (dW rv1 ra rb (.ref 6) (xW tv ta tb))
    refine XS.vret eX3_parseCrosser_18 rfl ?_
    refine ⟨_, _, _, _, rfl, hc1.mono (by decide), ?_, rfl⟩
    rw [if_pos g10]
    exact ⟨hP1, hfq, fun s3 h3 => by cases h3⟩
