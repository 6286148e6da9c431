/-! THE CLASS ITSELF: beginText, read -/
set_option maxHeartbeats 400000 in
theorem cc_beginFirstA (d : Nat) (nv : Nat → Int32) (na : Nat → Nat → Int32) (tv : Nat → Int32) (ta : Nat → Nat → Int32) (tb : Nat → Nat → Int64) (S : SD) (hsl : tv 1 = nI (S.1 24)) (hsl2 : S.1 24 ≤ 6) (hd : 2 ≤ d) : Con mX1_beginFirst d [.ref 0, .ref 5] (bW nv na tv ta tb) (fun r W' => ∃ nv' na', W' = bW nv' na' tv ta tb ∧ (∀ lv a, CX S lv a tv ta → CNt S (bgR a lv (S.1 24)) nv' na') ∧ r = none) := by
  refine Con.of (by decide) (Nat.le_of_ble_eq_true rfl) ?_
  refine XG.blk tX1_beginFirst_ok 0 11 (pc' := 17) (pl' := [some (.ref 0), some (.ref 5), none]) (st' := [(.ref 5), (.ref 0)]) (W1 := (bW (va_up (va_up (va_up nv 1 (nI 1)) 2 (nI 0)) 3 (nI 0)) na tv ta tb)) (bs := []) rfl rfl rfl ?_
  refine XG.callV0 eX1_beginFirst_17 kl_X1_34 (cc_putToSleep (d - 1) (va_up (va_up (va_up nv 1 (nI 1)) 2 (nI 0)) 3 (nI 0)) na tv ta tb S hsl hsl2 (by omega)) (px_fitS (by omega)) rfl rfl rfl (Nat.le_of_ble_eq_true rfl) (fun r9 W9 hp9 hl9 => ?_)
  obtain ⟨rfl, rfl⟩ := hp9
  show XG _ _ _ _ _ _ [] (bW (va_up (va_up (va_up (va_up (va_up nv 1 (nI 1)) 2 (nI 0)) 3 (nI 0)) 0 (nI 0)) 4 (nbX S tv)) (va_up na 5 (cp6 (ta 8) (na 5) 6)) tv ta tb)
  refine XG.blk tX1_beginFirst_ok 12 2 (pc' := 22) (pl' := [some (.ref 0), some (.ref 5), some (.int (nI 0))]) (st' := []) (W1 := (bW (va_up (va_up (va_up (va_up (va_up nv 1 (nI 1)) 2 (nI 0)) 3 (nI 0)) 0 (nI 0)) 4 (nbX S tv)) (va_up na 5 (cp6 (ta 8) (na 5) 6)) tv ta tb)) (bs := []) rfl rfl rfl ?_
  rw [show (bW (va_up (va_up (va_up (va_up (va_up nv 1 (nI 1)) 2 (nI 0)) 3 (nI 0)) 0 (nI 0)) 4 (nbX S tv)) (va_up na 5 (cp6 (ta 8) (na 5) 6)) tv ta tb) = (bW (va_up (va_up (va_up (va_up (va_up nv 1 (nI 1)) 2 (nI 0)) 3 (nI 0)) 0 (nI 0)) 4 (nbX S tv)) (va_up (va_up na 5 (cp6 (ta 8) (na 5) 6)) 6 (cp6 (ta 11) (na 6) 0)) tv ta tb) by rw [cp6_0]; rfl]
  refine px_for 6 (fun i => XG mX1_beginFirst _ 0 0 22 [some (.ref 0), some (.ref 5), some (.int (nI i))] [] (bW (va_up (va_up (va_up (va_up (va_up nv 1 (nI 1)) 2 (nI 0)) 3 (nI 0)) 0 (nI 0)) 4 (nbX S tv)) (va_up (va_up na 5 (cp6 (ta 8) (na 5) 6)) 6 (cp6 (ta 11) (na 6) i)) tv ta tb)) ?_ ?_ 0 (Nat.zero_le _)
  · skip
    refine XG.blk tX1_beginFirst_ok 14 2 (pc' := 25) (pl' := [some (.ref 0), some (.ref 5), some (.int (nI 6))]) (st' := [(.int (nI 6)), (.int (nI 6))]) (W1 := (bW (va_up (va_up (va_up (va_up (va_up nv 1 (nI 1)) 2 (nI 0)) 3 (nI 0)) 0 (nI 0)) 4 (nbX S tv)) (va_up (va_up na 5 (cp6 (ta 8) (na 5) 6)) 6 (cp6 (ta 11) (na 6) 6)) tv ta tb)) (bs := []) rfl rfl rfl ?_
    refine XG.br eX1_beginFirst_25 (P := (nI 6) ≤ (nI 6)) (r := []) rfl (tgt := 46) (by decide) (fun h25 => ?_) (fun h25 => ?_)
    · skip
      have g25 : 6 ≤ 6 := (nI_leI (a := 6) (b := 6) (by omega) (by omega)).mp h25
      refine XG.blk tX1_beginFirst_ok 27 2 (pc' := 48) (pl' := [some (.ref 0), some (.ref 5), some (.int (nI 0))]) (st' := []) (W1 := (bW (va_up (va_up (va_up (va_up (va_up nv 1 (nI 1)) 2 (nI 0)) 3 (nI 0)) 0 (nI 0)) 4 (nbX S tv)) (va_up (va_up na 5 (cp6 (ta 8) (na 5) 6)) 6 (cp6 (ta 11) (na 6) 6)) tv ta tb)) (bs := []) rfl rfl rfl ?_
      rw [show (bW (va_up (va_up (va_up (va_up (va_up nv 1 (nI 1)) 2 (nI 0)) 3 (nI 0)) 0 (nI 0)) 4 (nbX S tv)) (va_up (va_up na 5 (cp6 (ta 8) (na 5) 6)) 6 (cp6 (ta 11) (na 6) 6)) tv ta tb) = (bW (va_up (va_up (va_up (va_up (va_up nv 1 (nI 1)) 2 (nI 0)) 3 (nI 0)) 0 (nI 0)) 4 (nbX S tv)) (va_up (va_up (va_up (va_up na 5 (cp6 (ta 8) (na 5) 6)) 6 (cp6 (ta 11) (na 6) 6)) 7 (cp6 (fun _ => -2) (na 7) 0)) 8 (cp6 (fun _ => nI 0) (na 8) 0)) tv ta tb) by rw [cp6_0, cp6_0]; rfl]
      refine px_for 5 (fun c => XG mX1_beginFirst _ 0 0 48 [some (.ref 0), some (.ref 5), some (.int (nI c))] [] (bW (va_up (va_up (va_up (va_up (va_up nv 1 (nI 1)) 2 (nI 0)) 3 (nI 0)) 0 (nI 0)) 4 (nbX S tv)) (va_up (va_up (va_up (va_up na 5 (cp6 (ta 8) (na 5) 6)) 6 (cp6 (ta 11) (na 6) 6)) 7 (cp6 (fun _ => -2) (na 7) c)) 8 (cp6 (fun _ => nI 0) (na 8) c)) tv ta tb)) ?_ ?_ 0 (Nat.zero_le _)
      · skip
        refine XG.blk tX1_beginFirst_ok 29 2 (pc' := 50) (pl' := [some (.ref 0), some (.ref 5), some (.int (nI 5))]) (st' := [(.int (nI 5)), (.int (nI 5))]) (W1 := (bW (va_up (va_up (va_up (va_up (va_up nv 1 (nI 1)) 2 (nI 0)) 3 (nI 0)) 0 (nI 0)) 4 (nbX S tv)) (va_up (va_up (va_up (va_up na 5 (cp6 (ta 8) (na 5) 6)) 6 (cp6 (ta 11) (na 6) 6)) 7 (cp6 (fun _ => -2) (na 7) 5)) 8 (cp6 (fun _ => nI 0) (na 8) 5)) tv ta tb)) (bs := []) rfl rfl rfl ?_
        refine XG.br eX1_beginFirst_50 (P := (nI 5) ≤ (nI 5)) (r := []) rfl (tgt := 74) (by decide) (fun h50 => ?_) (fun h50 => ?_)
        · skip
          have g50 : 5 ≤ 5 := (nI_leI (a := 5) (b := 5) (by omega) (by omega)).mp h50
          refine XS.vret eX1_beginFirst_74 rfl ?_
          refine ⟨_, _, rfl, fun lv a hX => ?_, rfl⟩
          rw [bgR_eq]
          refine CNt.nb hX rfl ?_ ?_ ?_ rfl (fun i hi => ⟨cp6_in (by omega), ?_⟩) (fun c hc => ⟨?_, ?_⟩)
          · rw [bg0_z hsl2 (by decide)]; rfl
          · rw [bg0_z hsl2 (by decide)]; rfl
          · rw [bg0_z hsl2 (by decide)]; rfl
          · rw [bg0_l hsl2 hi]; exact (cp6_in (by omega)).trans (hX.slo hi).2.2.2
          · rw [bg0_w hc]; exact cp6_in (f := fun _ => -2) (g := na 7) hc
          · rw [bg0_z hsl2 (by omega)]; exact cp6_in (f := fun _ => nI 0) (g := na 8) hc
        · exfalso
          have g50 : ¬ 5 ≤ 5 := (fun z => h50 ((nI_leI (a := 5) (b := 5) (by omega) (by omega)).mpr z))
          omega
      · intro c hc ihc
        refine XG.blk tX1_beginFirst_ok 29 2 (pc' := 50) (pl' := [some (.ref 0), some (.ref 5), some (.int (nI c))]) (st' := [(.int (nI 5)), (.int (nI c))]) (W1 := (bW (va_up (va_up (va_up (va_up (va_up nv 1 (nI 1)) 2 (nI 0)) 3 (nI 0)) 0 (nI 0)) 4 (nbX S tv)) (va_up (va_up (va_up (va_up na 5 (cp6 (ta 8) (na 5) 6)) 6 (cp6 (ta 11) (na 6) 6)) 7 (cp6 (fun _ => -2) (na 7) c)) 8 (cp6 (fun _ => nI 0) (na 8) c)) tv ta tb)) (bs := []) rfl rfl rfl ?_
        refine XG.br eX1_beginFirst_50 (P := (nI 5) ≤ (nI c)) (r := []) rfl (tgt := 74) (by decide) (fun h50 => ?_) (fun h50 => ?_)
        · exfalso
          have g50 : 5 ≤ c := (nI_leI (a := 5) (b := c) (by omega) (by omega)).mp h50
          omega
        · skip
          have g50 : ¬ 5 ≤ c := (fun z => h50 ((nI_leI (a := 5) (b := c) (by omega) (by omega)).mpr z))
          have q1 : (nI c).toNatClampNeg = c := nI_clamp (by omega)
          have q2 : ((nI c) + (nI 1)) = (nI (c + 1)) := px_eadd rfl rfl
          refine XG.blk tX1_beginFirst_ok 32 11 (pc' := 71) (pl' := [some (.ref 0), some (.ref 5), some (.int ((nI c) + (nI 1)))]) (st' := []) (W1 := (bW (va_up (va_up (va_up (va_up (va_up nv 1 (nI 1)) 2 (nI 0)) 3 (nI 0)) 0 (nI 0)) 4 (nbX S tv)) (va_up (va_up (va_up (va_up na 5 (cp6 (ta 8) (na 5) 6)) 6 (cp6 (ta 11) (na 6) 6)) 7 (upd (cp6 (fun _ => -2) (na 7) c) (nI c).toNatClampNeg (-2))) 8 (upd (cp6 (fun _ => nI 0) (na 8) c) (nI c).toNatClampNeg (nI 0))) tv ta tb)) (bs := [px_vb (nI c) 5, px_vb (nI c) 5]) rfl rfl (by (try simp only [q1, q2]); exact (px_all (px_vbN (by omega) (by decide)) (px_all (px_vbN (by omega) (by decide)) rfl))) ?_
          simp only [q1, q2]
          refine XG.goto eX1_beginFirst_71 (tgt := 48) (by decide) ?_
          rw [cp6_s (fun _ => -2), cp6_s (fun _ => nI 0)]; exact ihc
    · exfalso
      have g25 : ¬ 6 ≤ 6 := (fun z => h25 ((nI_leI (a := 6) (b := 6) (by omega) (by omega)).mpr z))
      omega
  · intro i hi ihi
    refine XG.blk tX1_beginFirst_ok 14 2 (pc' := 25) (pl' := [some (.ref 0), some (.ref 5), some (.int (nI i))]) (st' := [(.int (nI 6)), (.int (nI i))]) (W1 := (bW (va_up (va_up (va_up (va_up (va_up nv 1 (nI 1)) 2 (nI 0)) 3 (nI 0)) 0 (nI 0)) 4 (nbX S tv)) (va_up (va_up na 5 (cp6 (ta 8) (na 5) 6)) 6 (cp6 (ta 11) (na 6) i)) tv ta tb)) (bs := []) rfl rfl rfl ?_
    refine XG.br eX1_beginFirst_25 (P := (nI 6) ≤ (nI i)) (r := []) rfl (tgt := 46) (by decide) (fun h25 => ?_) (fun h25 => ?_)
    · exfalso
      have g25 : 6 ≤ i := (nI_leI (a := 6) (b := i) (by omega) (by omega)).mp h25
      omega
    · skip
      have g25 : ¬ 6 ≤ i := (fun z => h25 ((nI_leI (a := 6) (b := i) (by omega) (by omega)).mpr z))
      have q3 : (nI i).toNatClampNeg = i := nI_clamp (by omega)
      have q4 : ((nI i) + (nI 1)) = (nI (i + 1)) := px_eadd rfl rfl
      refine XG.blk tX1_beginFirst_ok 17 9 (pc' := 43) (pl' := [some (.ref 0), some (.ref 5), some (.int ((nI i) + (nI 1)))]) (st' := []) (W1 := (bW (va_up (va_up (va_up (va_up (va_up nv 1 (nI 1)) 2 (nI 0)) 3 (nI 0)) 0 (nI 0)) 4 (nbX S tv)) (va_up (va_up na 5 (cp6 (ta 8) (na 5) 6)) 6 (upd (cp6 (ta 11) (na 6) i) (nI i).toNatClampNeg ((ta 11) (nI i).toNatClampNeg))) tv ta tb)) (bs := [px_vb (nI i) 6, px_vb (nI i) 6]) rfl rfl (by (try simp only [q3, q4]); exact (px_all (px_vbN (by omega) (by decide)) (px_all (px_vbN (by omega) (by decide)) rfl))) ?_
      simp only [q3, q4]
      refine XG.goto eX1_beginFirst_43 (tgt := 22) (by decide) ?_
      rw [cp6_s]; exact ihi
set_option maxHeartbeats 1000000 in
theorem cs_beginTextS (d : Nat) (bv : Nat → Int32) (tv : Nat → Int32) (ta : Nat → Nat → Int32) (tb : Nat → Nat → Int64) (uv : Nat → Int32) (ua : Nat → Nat → Int32) (ub : Nat → Nat → Int64) (rv : Nat → Int32) (ra : Nat → Nat → Int32) (rb : Nat → Nat → Int64) (rt : Value) (se : Nat → Int32) (pv : Nat → Int32) (pa : Nat → Nat → Int32) (gv : Nat → Int32) (ga : Nat → Nat → Int32) (ov : Nat → Int32) (oa : Nat → Nat → Int32) (qv : Nat → Int32) (qa : Nat → Nat → Int32) (hv : Nat → Int32) (ha : Nat → Nat → Int32) (nv : Nat → Int32) (na : Nat → Nat → Int32) (yv : Nat → Int32) (ya : Nat → Nat → Int32) (cf : Nat → Int32) (cs : Nat → Int32) (S : SD) (hsl : uv 1 = nI (S.1 24)) (hsl2 : S.1 24 ≤ 6) (hd : 3 ≤ d) : Con mX8_beginText d [.ref 0] (sG 16 1 1 bv tv ta tb uv ua ub rv ra rb rt se pv pa gv ga ov oa qv qa hv ha nv na yv ya cf cs) (fun r W' => ∃ nv' na', W' = (sG 16 1 16 (va_up (va_up bv 10 (nI 0)) 12 (nI 0)) tv ta tb uv ua ub rv ra rb rt se pv pa gv ga ov oa (va_up qv 0 (nI 0)) qa hv ha nv' na' yv ya cf cs) ∧ (∀ lv a, CX S lv a uv ua → CNt S (bgR a lv (S.1 24)) nv' na') ∧ r = none) := by
  refine Con.of (by decide) (Nat.le_of_ble_eq_true rfl) ?_
  refine XG.blk tX8_beginText_ok 0 9 (pc' := 19) (pl' := [some (.ref 0)]) (st' := [(.ref 16), (.ref 68)]) (W1 := (sG 16 1 16 bv tv ta tb uv ua ub rv ra rb rt se pv pa gv ga ov oa qv qa hv ha nv na yv ya cf cs)) (bs := []) rfl rfl rfl ?_
  refine XG.callV (ro := [68, 69, 70, 71, 72, 16, 17, 18, 19, 20, 21, 22, 23, 24, 25, 26, 27, 28, 29, 30]) (W1 := (bW nv na uv ua ub)) eX8_beginText_19 kl_X8_316 (cc_beginFirstA (d - 1) nv na uv ua ub S hsl hsl2 (by omega)) (px_fitS (by omega)) rfl ⟨rfl, by decide, by decide⟩ rfl rfl (Nat.le_of_ble_eq_true rfl) (fun r9 W9 hp9 hl9 => ?_)
  obtain ⟨nv2, na2, rfl, hN2, rfl⟩ := hp9
  rw [pt_gb]
  show XG _ _ _ _ _ _ [] (sG 16 1 16 bv tv ta tb uv ua ub rv ra rb rt se pv pa gv ga ov oa qv qa hv ha nv2 na2 yv ya cf cs)
  refine XG.blk tX8_beginText_ok 10 10 (pc' := 40) (pl' := [some (.ref 0)]) (st' := []) (W1 := (sG 16 1 16 (va_up (va_up bv 10 (nI 0)) 12 (nI 0)) tv ta tb uv ua ub rv ra rb rt se pv pa gv ga ov oa (va_up qv 0 (nI 0)) qa hv ha nv2 na2 yv ya cf cs)) (bs := []) rfl rfl rfl ?_
  refine XS.vret eX8_beginText_40 rfl ?_
  exact ⟨_, _, rfl, hN2, rfl⟩
set_option maxHeartbeats 1000000 in
theorem cs_beginTextT (d : Nat) (bv : Nat → Int32) (tv : Nat → Int32) (ta : Nat → Nat → Int32) (tb : Nat → Nat → Int64) (uv : Nat → Int32) (ua : Nat → Nat → Int32) (ub : Nat → Nat → Int64) (rv : Nat → Int32) (ra : Nat → Nat → Int32) (rb : Nat → Nat → Int64) (rt : Value) (se : Nat → Int32) (pv : Nat → Int32) (pa : Nat → Nat → Int32) (gv : Nat → Int32) (ga : Nat → Nat → Int32) (ov : Nat → Int32) (oa : Nat → Nat → Int32) (qv : Nat → Int32) (qa : Nat → Nat → Int32) (hv : Nat → Int32) (ha : Nat → Nat → Int32) (nv : Nat → Int32) (na : Nat → Nat → Int32) (yv : Nat → Int32) (ya : Nat → Nat → Int32) (cf : Nat → Int32) (cs : Nat → Int32) (S : SD) (hsl : tv 1 = nI (S.1 24)) (hsl2 : S.1 24 ≤ 6) (hd : 3 ≤ d) : Con mX8_beginText d [.ref 0] (sG 1 16 1 bv tv ta tb uv ua ub rv ra rb rt se pv pa gv ga ov oa qv qa hv ha nv na yv ya cf cs) (fun r W' => ∃ nv' na', W' = (sG 1 16 1 (va_up (va_up bv 10 (nI 0)) 12 (nI 0)) tv ta tb uv ua ub rv ra rb rt se pv pa gv ga ov oa (va_up qv 0 (nI 0)) qa hv ha nv' na' yv ya cf cs) ∧ (∀ lv a, CX S lv a tv ta → CNt S (bgR a lv (S.1 24)) nv' na') ∧ r = none) := by
  refine Con.of (by decide) (Nat.le_of_ble_eq_true rfl) ?_
  refine XG.blk tX8_beginText_ok 0 9 (pc' := 19) (pl' := [some (.ref 0)]) (st' := [(.ref 1), (.ref 68)]) (W1 := (sG 1 16 1 bv tv ta tb uv ua ub rv ra rb rt se pv pa gv ga ov oa qv qa hv ha nv na yv ya cf cs)) (bs := []) rfl rfl rfl ?_
  refine XG.callV (ro := [68, 69, 70, 71, 72, 1, 2, 3, 4, 5, 6, 7, 8, 9, 10, 11, 12, 13, 14, 15]) (W1 := (bW nv na tv ta tb)) eX8_beginText_19 kl_X8_316 (cc_beginFirstA (d - 1) nv na tv ta tb S hsl hsl2 (by omega)) (px_fitS (by omega)) rfl ⟨rfl, by decide, by decide⟩ rfl rfl (Nat.le_of_ble_eq_true rfl) (fun r9 W9 hp9 hl9 => ?_)
  obtain ⟨nv2, na2, rfl, hN2, rfl⟩ := hp9
  rw [pt_gb1]
  show XG _ _ _ _ _ _ [] (sG 1 16 1 bv tv ta tb uv ua ub rv ra rb rt se pv pa gv ga ov oa qv qa hv ha nv2 na2 yv ya cf cs)
  refine XG.blk tX8_beginText_ok 10 10 (pc' := 40) (pl' := [some (.ref 0)]) (st' := []) (W1 := (sG 1 16 1 (va_up (va_up bv 10 (nI 0)) 12 (nI 0)) tv ta tb uv ua ub rv ra rb rt se pv pa gv ga ov oa (va_up qv 0 (nI 0)) qa hv ha nv2 na2 yv ya cf cs)) (bs := []) rfl rfl rfl ?_
  refine XS.vret eX8_beginText_40 rfl ?_
  exact ⟨_, _, rfl, hN2, rfl⟩
theorem rdQ_e {K : TKS} {x : Int32} {rv tv : Nat → Int32} {ta : Nat → Nat → Int32} {tb : Nat → Nat → Int64} (h : rdQ K x rv tv ta tb) (hx : ¬ x = 0) : ∃ e, readS K = .inl e ∧ x = nI e.1 ∧ rv 1 = nI e.2 := by
  unfold rdQ at h
  cases e : readS K with
  | inl p => rw [e] at h; exact ⟨p, rfl, h.2.1, h.1⟩
  | inr S => rw [e] at h; exact absurd h.2.1 hx
theorem rdQ_0 {K : TKS} {x : Int32} {rv tv : Nat → Int32} {ta : Nat → Nat → Int32} {tb : Nat → Nat → Int64} (h : rdQ K x rv tv ta tb) (hx : x = 0) : ∃ S, readS K = .inr S ∧ rv 1 = -1 ∧ RDc S 400 tv ta tb := by
  unfold rdQ at h
  cases e : readS K with
  | inl p =>
    rw [e] at h
    have h1 := h.2.1
    rw [hx] at h1
    exact absurd ((nI_eq (a := 0) (b := p.1) (by omega) (by omega)).mp h1) (by omega)
  | inr S => rw [e] at h; exact ⟨S, rfl, h.1, h.2.2⟩
set_option maxHeartbeats 4000000 in
theorem cs_read (d : Nat) (bv : Nat → Int32) (tv : Nat → Int32) (ta : Nat → Nat → Int32) (tb : Nat → Nat → Int64) (uv : Nat → Int32) (ua : Nat → Nat → Int32) (ub : Nat → Nat → Int64) (rv : Nat → Int32) (ra : Nat → Nat → Int32) (rb : Nat → Nat → Int64) (rt9 : Value) (se : Nat → Int32) (pv : Nat → Int32) (pa : Nat → Nat → Int32) (gv : Nat → Int32) (ga : Nat → Nat → Int32) (ov : Nat → Int32) (oa : Nat → Nat → Int32) (qv : Nat → Int32) (qa : Nat → Nat → Int32) (hv : Nat → Int32) (ha : Nat → Nat → Int32) (nv : Nat → Int32) (na : Nat → Nat → Int32) (yv : Nat → Int32) (ya : Nat → Nat → Int32) (cf : Nat → Int32) (cs : Nat → Int32) (B : Nat → Nat) (n : Nat) (hn : n ≤ 2000) (h0 : rv 0 = nI n) (hB : tpR B n (ra 2)) (hWd : ∀ q, q < 22 → rb 3 q = lN (enc 32 (wds.getD q []))) (hd : 25 ≤ d) : Con mX8_read d [.ref 0] (sG 1 16 1 bv tv ta tb uv ua ub rv ra rb (px_tr (px_f [31, 32, 33, 34, 35, 36, 16, 17, 18, 19, 20, 21, 22, 23, 24, 25, 26, 27, 28, 29, 30, 1, 2, 3, 4, 5, 6, 7, 8, 9, 10, 11, 12, 13, 14, 15]) rt9) se pv pa gv ga ov oa qv qa hv ha nv na yv ya cf cs) (fun r W' => (∃ e, readS (lexK B n) = .inl e ∧ r = some (.int (nI e.1)) ∧ ∃ rv' ra' rb' uv' ua' ub', W' = (sG 1 16 1 bv tv ta tb uv' ua' ub' rv' ra' rb' (.ref 16) se pv pa gv ga ov oa qv qa hv ha nv na yv ya cf cs) ∧ rv' 0 = nI 0 ∧ rv' 1 = nI e.2 ∧ rb' 3 = rb 3) ∨ (∃ S, readS (lexK B n) = .inr S ∧ r = some (.int (nI 0)) ∧ ∃ rv' ra' rb' uv' ua' ub' nv' na', W' = (sG 16 1 16 (va_up (va_up bv 10 (nI 0)) 12 (nI 0)) tv ta tb uv' ua' ub' rv' ra' rb' (.ref 16) se pv pa gv ga ov oa (va_up qv 0 (nI 0)) qa hv ha nv' na' yv ya cf cs) ∧ rv' 0 = nI 0 ∧ rv' 1 = -1 ∧ rb' 3 = rb 3 ∧ CTx S uv' ua' ∧ ∀ lv a, CX S lv a uv' ua' → CNt S (bgR a lv (S.1 24)) nv' na')) := by
  refine Con.of (by decide) (Nat.le_of_ble_eq_true rfl) ?_
  refine XG.blk tX8_read_ok 0 4 (pc' := 8) (pl' := [some (.ref 0), none, none]) (st' := [(.ref 16), (.ref 31)]) (W1 := (sG 1 16 1 bv tv ta tb uv ua ub rv ra rb (px_tr (px_f [31, 32, 33, 34, 35, 36, 16, 17, 18, 19, 20, 21, 22, 23, 24, 25, 26, 27, 28, 29, 30, 1, 2, 3, 4, 5, 6, 7, 8, 9, 10, 11, 12, 13, 14, 15]) rt9) se pv pa gv ga ov oa qv qa hv ha nv na yv ya cf cs)) (bs := []) rfl rfl rfl ?_
  refine XG.callV (ro := [31, 32, 33, 34, 35, 36, 16, 17, 18, 19, 20, 21, 22, 23, 24, 25, 26, 27, 28, 29, 30, 1, 2, 3, 4, 5, 6, 7, 8, 9, 10, 11, 12, 13, 14, 15]) (W1 := (dW rv ra rb rt9 (xY uv ua ub tv ta tb))) eX8_read_8 kl_X8_87 (cc_parseY (d - 1) rv ra rb rt9 uv ua ub tv ta tb B n hn h0 hB hWd (by omega)) (px_fitS (by omega)) rfl ⟨rfl, by decide, by decide⟩ rfl rfl (Nat.le_of_ble_eq_true rfl) (fun r9 W9 hp9 hl9 => ?_)
  obtain ⟨x1, rv1, ra1, rb1, uv1, ua1, ub1, rfl, hC1, hA1, hB1, hQ1, rfl⟩ := hp9
  rw [pt_gd]
  show XG _ _ _ _ _ _ [(.int x1)] (sG 1 16 1 bv tv ta tb uv1 ua1 ub1 rv1 ra1 rb1 (.ref 16) se pv pa gv ga ov oa qv qa hv ha nv na yv ya cf cs)
  refine XG.blk tX8_read_ok 5 6 (pc' := 21) (pl' := [some (.ref 0), some (.int x1), none]) (st' := [(.int x1)]) (W1 := (sG 1 16 1 bv tv ta tb uv1 ua1 ub1 (va_up rv1 0 (nI 0)) ra1 rb1 (.ref 16) se pv pa gv ga ov oa qv qa hv ha nv na yv ya cf cs)) (bs := []) rfl rfl rfl ?_
  refine XG.br eX8_read_21 (P := ¬ x1 = 0) (r := []) rfl (tgt := 46) (by decide) (fun h21 => ?_) (fun h21 => ?_)
  · skip
    refine XG.blk tX8_read_ok 24 1 (pc' := 47) (pl' := [some (.ref 0), some (.int x1), none]) (st' := [(.int x1)]) (W1 := (sG 1 16 1 bv tv ta tb uv1 ua1 ub1 (va_up rv1 0 (nI 0)) ra1 rb1 (.ref 16) se pv pa gv ga ov oa qv qa hv ha nv na yv ya cf cs)) (bs := []) rfl rfl rfl ?_
    refine XS.iret eX8_read_47 rfl rfl ?_
    obtain ⟨e, he, hx, h1⟩ := rdQ_e hQ1 h21
    exact Or.inl ⟨e, he, by rw [hx], _, _, _, _, _, _, rfl, rfl, h1, hB1⟩
  · skip
    have h21 := Decidable.not_not.mp h21
    obtain ⟨S, hS, h1, hRD⟩ := rdQ_0 hQ1 h21
    refine XG.blk tX8_read_ok 12 11 (pc' := 43) (pl' := [some (.ref 0), some (.int x1), some (.ref 16)]) (st' := [(.ref 0)]) (W1 := (sG 16 1 1 bv tv ta tb uv1 ua1 ub1 (va_up rv1 0 (nI 0)) ra1 rb1 (.ref 16) se pv pa gv ga ov oa qv qa hv ha nv na yv ya cf cs)) (bs := []) rfl rfl rfl ?_
    refine XG.callV0 eX8_read_43 kl_X8_73 (cs_beginTextS (d - 1) bv tv ta tb uv1 ua1 ub1 (va_up rv1 0 (nI 0)) ra1 rb1 (.ref 16) se pv pa gv ga ov oa qv qa hv ha nv na yv ya cf cs S hRD.1.2.1 hRD.2.2.2.2.2.2.2.2.1 (by omega)) (px_fitS (by omega)) rfl rfl rfl (Nat.le_of_ble_eq_true rfl) (fun r9 W9 hp9 hl9 => ?_)
    obtain ⟨nv2, na2, rfl, hN2, rfl⟩ := hp9
    show XG _ _ _ _ _ _ [] (sG 16 1 16 (va_up (va_up bv 10 (nI 0)) 12 (nI 0)) tv ta tb uv1 ua1 ub1 (va_up rv1 0 (nI 0)) ra1 rb1 (.ref 16) se pv pa gv ga ov oa (va_up qv 0 (nI 0)) qa hv ha nv2 na2 yv ya cf cs)
    refine XG.blk tX8_read_ok 24 1 (pc' := 47) (pl' := [some (.ref 0), some (.int x1), some (.ref 16)]) (st' := [(.int x1)]) (W1 := (sG 16 1 16 (va_up (va_up bv 10 (nI 0)) 12 (nI 0)) tv ta tb uv1 ua1 ub1 (va_up rv1 0 (nI 0)) ra1 rb1 (.ref 16) se pv pa gv ga ov oa (va_up qv 0 (nI 0)) qa hv ha nv2 na2 yv ya cf cs)) (bs := []) rfl rfl rfl ?_
    refine XS.iret eX8_read_47 rfl rfl ?_
    exact Or.inr ⟨S, hS, by rw [h21]; rfl, _, _, _, _, _, _, _, _, rfl, rfl, h1, hB1, hRD.ctx (Nat.le_refl _), hN2⟩
