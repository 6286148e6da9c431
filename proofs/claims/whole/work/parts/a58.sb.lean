/-! THE CLASS ITSELF: tells -/
theorem XG.lsw2 {M : px_M} {G : px_G} {nc ns pc : Nat} {pl : px_L} {st : List Value} {W0 : px_W} {dflt o0 o1 : Int} {len : Nat} {x : Int32} (hd : decode M.2.1 pc = .ok (.lookupswitch dflt #[(0, o0), (1, o1)], len)) {t0 t1 td : Nat} (h0 : (pc : Int) + o0 = (t0 : Int)) (h1 : (pc : Int) + o1 = (t1 : Int)) (h2 : (pc : Int) + dflt = (td : Int)) (k0 : x = 0 → XG M G nc ns t0 pl st W0) (k1 : x = 1 → XG M G nc ns t1 pl st W0) (k2 : ¬ x = 0 ∧ ¬ x = 1 → XG M G nc ns td pl st W0) : XG M G nc ns pc pl (.int x :: st) W0 := by
  have e : Op.lookupswitch.offset [(0, o0), (1, o1)] dflt x.toInt = if (0 : Int) = x.toInt then o0 else if (1 : Int) = x.toInt then o1 else dflt := rfl
  by_cases e0 : x = 0
  · have e1 : Op.lookupswitch.offset [(0, o0), (1, o1)] dflt x.toInt = o0 := by rw [e, if_pos (by rw [e0]; rfl)]
    refine XG.lsw hd rfl (fun o t ho ht => ?_) ⟨t0, by rw [← h0]; exact congrArg (fun z => (pc : Int) + z) e1⟩
    have e2 : o = o0 := ho.symm.trans e1
    have e3 : t = t0 := by omega
    rw [e3]; exact k0 e0
  · have f0 : ¬ (0 : Int) = x.toInt := fun w => e0 (Int32.toInt_inj.mp w.symm)
    by_cases e9 : x = 1
    · have e1 : Op.lookupswitch.offset [(0, o0), (1, o1)] dflt x.toInt = o1 := by rw [e, if_neg f0, if_pos (by rw [e9]; rfl)]
      refine XG.lsw hd rfl (fun o t ho ht => ?_) ⟨t1, by rw [← h1]; exact congrArg (fun z => (pc : Int) + z) e1⟩
      have e2 : o = o1 := ho.symm.trans e1
      have e3 : t = t1 := by omega
      rw [e3]; exact k1 e9
    · have e1 : Op.lookupswitch.offset [(0, o0), (1, o1)] dflt x.toInt = dflt := by rw [e, if_neg f0, if_neg (fun w => e9 (Int32.toInt_inj.mp w.symm))]
      refine XG.lsw hd rfl (fun o t ho ht => ?_) ⟨td, by rw [← h2]; exact congrArg (fun z => (pc : Int) + z) e1⟩
      have e2 : o = dflt := ho.symm.trans e1
      have e3 : t = td := by omega
      rw [e3]; exact k2 ⟨e0, e9⟩
theorem CX.isC {S : SD} {lv : Nat} {a : Nat → Nat → Int32} {tv : Nat → Int32} {ta : Nat → Nat → Int32} (h : CX S lv a tv ta) (p : Int32) : (0 ≤ p ∧ p < tv 3) ↔ px_vb p (S.1 31) = true := by
  obtain ⟨h1, h2⟩ := h.cr
  rw [h1]
  refine ⟨fun w => vb_S (by omega) w, fun w => ?_⟩
  obtain ⟨x, hx, rfl⟩ := px_vb_ex w (by omega)
  exact in_S hx (by omega)
theorem CX.isL {S : SD} {lv : Nat} {a : Nat → Nat → Int32} {tv : Nat → Int32} {ta : Nat → Nat → Int32} (h : CX S lv a tv ta) (p : Int32) : (0 ≤ p ∧ p < tv 1) ↔ px_vb p (S.1 24) = true := by
  obtain ⟨h1, h2⟩ := h.sl
  rw [h1]
  refine ⟨fun w => vb_S (by omega) w, fun w => ?_⟩
  obtain ⟨x, hx, rfl⟩ := px_vb_ex w (by omega)
  exact in_S hx (by omega)
theorem CX.isP {S : SD} {lv : Nat} {a : Nat → Nat → Int32} {tv : Nat → Int32} {ta : Nat → Nat → Int32} (h : CX S lv a tv ta) (p : Int32) : (0 ≤ p ∧ p < tv 0) ↔ px_vb p (S.1 23) = true := by
  obtain ⟨h1, h2, h3⟩ := h.sp
  rw [h1]
  refine ⟨fun w => vb_S (by omega) w, fun w => ?_⟩
  obtain ⟨x, hx, rfl⟩ := px_vb_ex w (by omega)
  exact in_S hx (by omega)
theorem is_ne {P : Prop} [Decidable P] (h : ¬ (if P then (1 : Int32) else 0) = 0) : P := Decidable.not_not.mp (fun z => h (one_ne.mpr z))
theorem vb_n {x : Int32} {m : Nat} (hm : m < 2 ^ 31) (h1 : ¬ x < 0) (h2 : ¬ nI m < x) : px_vb x (m + 1) = true := by
  have e1 := Int32.le_iff_toInt_le.mp (Int32.not_lt.mp h1)
  have e2 := Int32.le_iff_toInt_le.mp (Int32.not_lt.mp h2)
  rw [nI_toInt hm] at e2
  refine px_vb_iff.mpr ⟨e1, ?_⟩
  omega
theorem vb_le {x : Int32} {m n : Nat} (h : px_vb x m = true) (hn : m ≤ n) : px_vb x n = true := by
  have := px_vb_iff.mp h
  refine px_vb_iff.mpr ⟨this.1, ?_⟩
  omega
theorem vb_cl {x : Int32} {n : Nat} (hn : n < 2 ^ 31) (h : px_vb x n = true) : x.toNatClampNeg < n := by
  obtain ⟨y, hy, rfl⟩ := px_vb_ex h hn
  rw [nI_clamp (by omega)]; exact hy
theorem sw_eq {x : Int32} {k : Nat} (hk : k < 2 ^ 31) (h : x.toInt = (0 : Int) + (k : Int)) : x = nI k := by
  refine Int32.toInt_inj.mp ?_
  rw [nI_toInt hk]; omega
theorem bits_pc : ∀ m : Fin 64, bitsN (nI m.val) = nI (pcN m.val 6) := by decide +kernel
theorem in01 {x : Int32} (h : nI 0 ≤ x ∧ x ≤ nI 1) : x = 0 ∨ x = 1 := by
  have e1 := Int32.le_iff_toInt_le.mp h.1
  have e2 := Int32.le_iff_toInt_le.mp h.2
  rw [show (nI 0).toInt = 0 from rfl] at e1
  rw [show (nI 1).toInt = 1 from rfl] at e2
  by_cases e : x.toInt = 0
  · exact Or.inl (Int32.toInt_inj.mp e)
  · exact Or.inr (Int32.toInt_inj.mp (by rw [show (1 : Int32).toInt = 1 from rfl]; omega))
set_option maxHeartbeats 1000000 in
theorem cs_tellsI (d : Nat) (bv : Nat → Int32) (tv : Nat → Int32) (ta : Nat → Nat → Int32) (tb : Nat → Nat → Int64) (uv : Nat → Int32) (ua : Nat → Nat → Int32) (ub : Nat → Nat → Int64) (rv : Nat → Int32) (ra : Nat → Nat → Int32) (rb : Nat → Nat → Int64) (rt : Value) (se : Nat → Int32) (pv : Nat → Int32) (pa : Nat → Nat → Int32) (gv : Nat → Int32) (ga : Nat → Nat → Int32) (ov : Nat → Int32) (oa : Nat → Nat → Int32) (qv : Nat → Int32) (qa : Nat → Nat → Int32) (hv : Nat → Int32) (ha : Nat → Nat → Int32) (nv : Nat → Int32) (na : Nat → Nat → Int32) (yv : Nat → Int32) (ya : Nat → Nat → Int32) (cf : Nat → Int32) (cs : Nat → Int32) (S : SD) (lv : Nat) (a : Nat → Nat → Int32) (hX : CX S lv (aQ a) tv ta) (hN : CNt S (a 54) nv na) (x : Nat) (hx : x < S.1 24) (what : Int32) (hd : 6 ≤ d) : Con mX8_tells d [.ref 0, .int (nI x), .int what] (sW bv tv ta tb uv ua ub rv ra rb rt se pv pa gv ga ov oa qv qa hv ha nv na yv ya cf cs) (fun r W' => ∃ se' ta', W' = (sW bv tv ta' tb uv ua ub rv ra rb rt se' pv pa gv ga ov oa qv qa hv ha nv na yv ya cf cs) ∧ chg [22] ta ta' ∧ r = some (.int (qTells a lv (S.1 24) (S.1 31) x what))) := by
  obtain ⟨hsp, hsp1, hsp2⟩ := hX.sp
  obtain ⟨hsl, hsl2⟩ := hX.sl
  obtain ⟨hcr, hcr2⟩ := hX.cr
  have hin : 0 ≤ nI x ∧ nI x < tv 1 := by rw [hsl]; exact in_S hx (by omega)
  refine Con.of (by decide) (Nat.le_of_ble_eq_true rfl) ?_
  refine XG.blk tX8_tells_ok 0 2 (pc' := 2) (pl' := [some (.ref 0), some (.int (nI x)), some (.int what)]) (st' := [(.int (nI x)), (.ref 0)]) (W1 := (sW bv tv ta tb uv ua ub rv ra rb rt se pv pa gv ga ov oa qv qa hv ha nv na yv ya cf cs)) (bs := []) rfl rfl rfl ?_
  refine XG.callV0 eX8_tells_2 kl_X8_94 (cs_isSleeper (d - 1) bv tv ta tb uv ua ub rv ra rb rt se pv pa gv ga ov oa qv qa hv ha nv na yv ya cf cs (nI x)) (px_fitS (by omega)) rfl rfl rfl (Nat.le_of_ble_eq_true rfl) (fun r9 W9 hp9 hl9 => ?_)
  obtain ⟨rfl, rfl⟩ := hp9
  refine XG.br eX8_tells_5 (P := (if 0 ≤ (nI x) ∧ (nI x) < tv 1 then 1 else 0) = 0) (r := []) rfl (tgt := 22) (by decide) (fun h5 => ?_) (fun h5 => ?_)
  · exfalso
    exact absurd h5 (by rw [if_pos hin]; decide)
  · skip
    refine XG.blk tX8_tells_ok 4 7 (pc' := 19) (pl' := [some (.ref 0), some (.int (nI x)), some (.int what)]) (st' := [(.int (((nv 4) >>> ((nI x) &&& 31)) &&& (nI 1)))]) (W1 := (sW bv tv ta tb uv ua ub rv ra rb rt se pv pa gv ga ov oa qv qa hv ha nv na yv ya cf cs)) (bs := []) rfl rfl rfl ?_
    refine XG.br eX8_tells_19 (P := ¬ (((nv 4) >>> ((nI x) &&& 31)) &&& (nI 1)) = 0) (r := []) rfl (tgt := 25) (by decide) (fun h19 => ?_) (fun h19 => ?_)
    · skip
      have hs : slp (a 54) (a 35 lv) x := by rw [asl_v hX hN hx] at h19; exact is_ne h19
      have hxs : slp (a 54) (nI (S.1 35)) x := by have e : a 35 lv = nI (S.1 35) := hX.dw.2.2; rw [← e]; exact hs
      refine XG.blk tX8_tells_ok 14 1 (pc' := 26) (pl' := [some (.ref 0), some (.int (nI x)), some (.int what)]) (st' := [(.int what)]) (W1 := (sW bv tv ta tb uv ua ub rv ra rb rt se pv pa gv ga ov oa qv qa hv ha nv na yv ya cf cs)) (bs := []) rfl rfl rfl ?_
      refine XG.lsw2 eX8_tells_26 (t0 := 52) (t1 := 65) (td := 78) (by decide) (by decide) (by decide) (fun h26 => ?_) (fun h26 => ?_) (fun h26 => ?_)
      · skip
        refine XG.blk tX8_tells_ok 16 5 (pc' := 61) (pl' := [some (.ref 0), some (.int (nI x)), some (.int what)]) (st' := [(.int (nI x)), (.ref 68), (.ref 37)]) (W1 := (sW bv tv ta tb uv ua ub rv ra rb rt se pv pa gv ga ov oa qv qa hv ha nv na yv ya cf cs)) (bs := []) rfl rfl rfl ?_
        refine XG.callV (ro := [37, 38, 1, 2, 3, 4, 5, 6, 7, 8, 9, 10, 11, 12, 13, 14, 15, 68, 69, 70, 71, 72]) (W1 := (rW se tv ta tb nv na)) eX8_tells_61 kl_X8_151 (cc_wakingOf (d - 1) se tv ta tb nv na S lv (aQ a) hX (a 54) hN x hx hxs (by omega)) (px_fitS (by omega)) rfl ⟨rfl, by decide, by decide⟩ rfl rfl (Nat.le_of_ble_eq_true rfl) (fun r9 W9 hp9 hl9 => ?_)
        obtain ⟨se1, sk1, rfl, rfl⟩ := hp9
        rw [pt_srn]
        show XG _ _ _ _ _ _ [(.int (askV (va_up (aQ a) 55 (a 54)) lv (S.1 24) (S.1 31) 1 x (nI 0) (nI 0) (nI 100)))] (sW bv tv (va_up ta 22 sk1) tb uv ua ub rv ra rb rt se1 pv pa gv ga ov oa qv qa hv ha nv na yv ya cf cs)
        refine XS.iret eX8_tells_64 rfl rfl ?_
        exact ⟨_, _, rfl, (chg.up (by decide)), by unfold qTells; subst h26; rw [if_pos ⟨⟨by decide, by decide⟩, hs⟩, if_pos rfl, aQ_up]⟩
      · skip
        refine XG.blk tX8_tells_ok 23 5 (pc' := 74) (pl' := [some (.ref 0), some (.int (nI x)), some (.int what)]) (st' := [(.int (nI x)), (.ref 68), (.ref 37)]) (W1 := (sW bv tv ta tb uv ua ub rv ra rb rt se pv pa gv ga ov oa qv qa hv ha nv na yv ya cf cs)) (bs := []) rfl rfl rfl ?_
        refine XG.callV (ro := [37, 38, 1, 2, 3, 4, 5, 6, 7, 8, 9, 10, 11, 12, 13, 14, 15, 68, 69, 70, 71, 72]) (W1 := (rW se tv ta tb nv na)) eX8_tells_74 kl_X8_154 (cc_deepeningOf (d - 1) se tv ta tb nv na S lv (aQ a) hX (a 54) hN x hx hxs (by omega)) (px_fitS (by omega)) rfl ⟨rfl, by decide, by decide⟩ rfl rfl (Nat.le_of_ble_eq_true rfl) (fun r9 W9 hp9 hl9 => ?_)
        obtain ⟨se1, sk1, rfl, rfl⟩ := hp9
        rw [pt_srn]
        show XG _ _ _ _ _ _ [(.int (askV (va_up (aQ a) 55 (a 54)) lv (S.1 24) (S.1 31) 2 x (nI 0) (-9) (nI 9)))] (sW bv tv (va_up ta 22 sk1) tb uv ua ub rv ra rb rt se1 pv pa gv ga ov oa qv qa hv ha nv na yv ya cf cs)
        refine XS.iret eX8_tells_77 rfl rfl ?_
        exact ⟨_, _, rfl, (chg.up (by decide)), by unfold qTells; subst h26; rw [if_pos ⟨⟨by decide, by decide⟩, hs⟩, if_neg (by decide), aQ_up]⟩
      · skip
        refine XG.blk tX8_tells_ok 30 1 (pc' := 80) (pl' := [some (.ref 0), some (.int (nI x)), some (.int what)]) (st' := [(.int (-100))]) (W1 := (sW bv tv ta tb uv ua ub rv ra rb rt se pv pa gv ga ov oa qv qa hv ha nv na yv ya cf cs)) (bs := []) rfl rfl rfl ?_
        refine XS.iret eX8_tells_80 rfl rfl ?_
        exact ⟨_, _, rfl, chg.rf, by unfold qTells; rw [if_neg (fun w => by rcases in01 w.1 with e | e; exact h26.1 e; exact h26.2 e)]⟩
    · skip
      have h19 := Decidable.not_not.mp h19
      have hs : ¬ slp (a 54) (a 35 lv) x := by rw [asl_v hX hN hx] at h19; exact one_ne.mp h19
      refine XG.blk tX8_tells_ok 12 1 (pc' := 24) (pl' := [some (.ref 0), some (.int (nI x)), some (.int what)]) (st' := [(.int (-100))]) (W1 := (sW bv tv ta tb uv ua ub rv ra rb rt se pv pa gv ga ov oa qv qa hv ha nv na yv ya cf cs)) (bs := []) rfl rfl rfl ?_
      refine XS.iret eX8_tells_24 rfl rfl ?_
      exact ⟨_, _, rfl, chg.rf, by unfold qTells; rw [if_neg (fun w => hs w.2)]⟩
set_option maxHeartbeats 1000000 in
theorem cs_tellsO (d : Nat) (bv : Nat → Int32) (tv : Nat → Int32) (ta : Nat → Nat → Int32) (tb : Nat → Nat → Int64) (uv : Nat → Int32) (ua : Nat → Nat → Int32) (ub : Nat → Nat → Int64) (rv : Nat → Int32) (ra : Nat → Nat → Int32) (rb : Nat → Nat → Int64) (rt : Value) (se : Nat → Int32) (pv : Nat → Int32) (pa : Nat → Nat → Int32) (gv : Nat → Int32) (ga : Nat → Nat → Int32) (ov : Nat → Int32) (oa : Nat → Nat → Int32) (qv : Nat → Int32) (qa : Nat → Nat → Int32) (hv : Nat → Int32) (ha : Nat → Nat → Int32) (nv : Nat → Int32) (na : Nat → Nat → Int32) (yv : Nat → Int32) (ya : Nat → Nat → Int32) (cf : Nat → Int32) (cs : Nat → Int32) (S : SD) (lv : Nat) (a : Nat → Nat → Int32) (hX : CX S lv (aQ a) tv ta) (hN : CNt S (a 54) nv na) (p : Int32) (hp : ¬ px_vb p (S.1 24) = true) (what : Int32) (hd : 6 ≤ d) : Con mX8_tells d [.ref 0, .int p, .int what] (sW bv tv ta tb uv ua ub rv ra rb rt se pv pa gv ga ov oa qv qa hv ha nv na yv ya cf cs) (fun r W' => ∃ se' ta', W' = (sW bv tv ta' tb uv ua ub rv ra rb rt se' pv pa gv ga ov oa qv qa hv ha nv na yv ya cf cs) ∧ chg [22] ta ta' ∧ r = some (.int (-100))) := by
  obtain ⟨hsp, hsp1, hsp2⟩ := hX.sp
  obtain ⟨hsl, hsl2⟩ := hX.sl
  obtain ⟨hcr, hcr2⟩ := hX.cr
  have hno : ¬ (0 ≤ p ∧ p < tv 1) := by rw [hsl]; exact fun w => hp (vb_S (by omega) w)
  refine Con.of (by decide) (Nat.le_of_ble_eq_true rfl) ?_
  refine XG.blk tX8_tells_ok 0 2 (pc' := 2) (pl' := [some (.ref 0), some (.int p), some (.int what)]) (st' := [(.int p), (.ref 0)]) (W1 := (sW bv tv ta tb uv ua ub rv ra rb rt se pv pa gv ga ov oa qv qa hv ha nv na yv ya cf cs)) (bs := []) rfl rfl rfl ?_
  refine XG.callV0 eX8_tells_2 kl_X8_94 (cs_isSleeper (d - 1) bv tv ta tb uv ua ub rv ra rb rt se pv pa gv ga ov oa qv qa hv ha nv na yv ya cf cs p) (px_fitS (by omega)) rfl rfl rfl (Nat.le_of_ble_eq_true rfl) (fun r9 W9 hp9 hl9 => ?_)
  obtain ⟨rfl, rfl⟩ := hp9
  refine XG.br eX8_tells_5 (P := (if 0 ≤ p ∧ p < tv 1 then 1 else 0) = 0) (r := []) rfl (tgt := 22) (by decide) (fun h5 => ?_) (fun h5 => ?_)
  · skip
    refine XG.blk tX8_tells_ok 12 1 (pc' := 24) (pl' := [some (.ref 0), some (.int p), some (.int what)]) (st' := [(.int (-100))]) (W1 := (sW bv tv ta tb uv ua ub rv ra rb rt se pv pa gv ga ov oa qv qa hv ha nv na yv ya cf cs)) (bs := []) rfl rfl rfl ?_
    refine XS.iret eX8_tells_24 rfl rfl ?_
    exact ⟨_, _, rfl, chg.rf, rfl⟩
  · exfalso
    exact h5 (if_neg hno)
theorem cs_tells (d : Nat) (bv : Nat → Int32) (tv : Nat → Int32) (ta : Nat → Nat → Int32) (tb : Nat → Nat → Int64) (uv : Nat → Int32) (ua : Nat → Nat → Int32) (ub : Nat → Nat → Int64) (rv : Nat → Int32) (ra : Nat → Nat → Int32) (rb : Nat → Nat → Int64) (rt : Value) (se : Nat → Int32) (pv : Nat → Int32) (pa : Nat → Nat → Int32) (gv : Nat → Int32) (ga : Nat → Nat → Int32) (ov : Nat → Int32) (oa : Nat → Nat → Int32) (qv : Nat → Int32) (qa : Nat → Nat → Int32) (hv : Nat → Int32) (ha : Nat → Nat → Int32) (nv : Nat → Int32) (na : Nat → Nat → Int32) (yv : Nat → Int32) (ya : Nat → Nat → Int32) (cf : Nat → Int32) (cs : Nat → Int32) (S : SD) (lv : Nat) (a : Nat → Nat → Int32) (hX : CX S lv (aQ a) tv ta) (hN : CNt S (a 54) nv na) (p what : Int32) (hd : 6 ≤ d) : Con mX8_tells d [.ref 0, .int p, .int what] (sW bv tv ta tb uv ua ub rv ra rb rt se pv pa gv ga ov oa qv qa hv ha nv na yv ya cf cs) (fun r W' => ∃ se' ta', W' = (sW bv tv ta' tb uv ua ub rv ra rb rt se' pv pa gv ga ov oa qv qa hv ha nv na yv ya cf cs) ∧ chg [22] ta ta' ∧ r = some (.int (ansB p (S.1 24) (fun x => qTells a lv (S.1 24) (S.1 31) x what) (-100)))) := by
  obtain ⟨hsp, hsp1, hsp2⟩ := hX.sp
  obtain ⟨hsl, hsl2⟩ := hX.sl
  obtain ⟨hcr, hcr2⟩ := hX.cr
  by_cases hp : px_vb p (S.1 24) = true
  · obtain ⟨x, hx, rfl⟩ := px_vb_ex hp (by omega)
    have eA : ansB (nI x) (S.1 24) (fun x => qTells a lv (S.1 24) (S.1 31) x what) (-100) = qTells a lv (S.1 24) (S.1 31) x what := by unfold ansB; rw [if_pos hp, nI_clamp (by omega)]
    rw [eA]
    exact cs_tellsI d bv tv ta tb uv ua ub rv ra rb rt se pv pa gv ga ov oa qv qa hv ha nv na yv ya cf cs S lv a hX hN x hx what hd
  · have eA : (ansB p (S.1 24) (fun x => qTells a lv (S.1 24) (S.1 31) x what) (-100)) = (-100) := by unfold ansB; rw [if_neg hp]
    rw [eA]
    exact cs_tellsO d bv tv ta tb uv ua ub rv ra rb rt se pv pa gv ga ov oa qv qa hv ha nv na yv ya cf cs S lv a hX hN p hp what hd
