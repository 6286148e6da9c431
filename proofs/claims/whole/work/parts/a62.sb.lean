/-! THE CLASS ITSELF: awake, ask, tell -/
theorem aw_vb {y : Int32} {n : Nat} (hy : -1 ≤ y) (h1 : ¬ y = -1) (hn : n < 2 ^ 31) (h2 : ¬ nI n ≤ y) : px_vb y n = true := by
  have e1 := Int32.le_iff_toInt_le.mp hy
  have e2 := Int32.lt_iff_toInt_lt.mp (Int32.not_le.mp h2)
  rw [show (-1 : Int32).toInt = -1 from rfl] at e1
  rw [nI_toInt hn] at e2
  have e3 : y.toInt ≠ -1 := fun w => h1 (Int32.toInt_inj.mp (w.trans rfl))
  exact px_vb_iff.mpr ⟨by omega, e2⟩
set_option maxHeartbeats 1000000 in
theorem cs_awakeI (d : Nat) (bv : Nat → Int32) (tv : Nat → Int32) (ta : Nat → Nat → Int32) (tb : Nat → Nat → Int64) (uv : Nat → Int32) (ua : Nat → Nat → Int32) (ub : Nat → Nat → Int64) (rv : Nat → Int32) (ra : Nat → Nat → Int32) (rb : Nat → Nat → Int64) (rt : Value) (se : Nat → Int32) (pv : Nat → Int32) (pa : Nat → Nat → Int32) (gv : Nat → Int32) (ga : Nat → Nat → Int32) (ov : Nat → Int32) (oa : Nat → Nat → Int32) (qv : Nat → Int32) (qa : Nat → Nat → Int32) (hv : Nat → Int32) (ha : Nat → Nat → Int32) (nv : Nat → Int32) (na : Nat → Nat → Int32) (yv : Nat → Int32) (ya : Nat → Nat → Int32) (cf : Nat → Int32) (cs : Nat → Int32) (S : SD) (lv : Nat) (v : Nat → Int32) (a : Nat → Nat → Int32) (hX : CX S lv (aQ a) tv ta) (hN : CNt S (a 54) nv na) (tn : Nat) (htn : qv 0 = nI tn) (htn2 : tn ≤ 20) (hTo : ∀ i, i < tn → qa 3 i = a 70 i ∧ qa 4 i = a 71 i) (k : Nat) (hk : k ≤ tn) (y : Int32) (hy : -1 ≤ y) (hd : 6 ≤ d) : Con mX8_awake d [.ref 0, .int (nI k), .int y] (sW bv tv ta tb uv ua ub rv ra rb rt se pv pa gv ga ov oa qv qa hv ha nv na yv ya cf cs) (fun r W' => ∃ qv' qa' hv' ha' se' ta', W' = (sW bv tv ta' tb uv ua ub rv ra rb rt se' pv pa gv ga ov oa qv' qa' hv' ha' nv na yv ya cf cs) ∧ chg [22] ta ta' ∧ (qv' 0 = qv 0 ∧ qa' 3 = qa 3 ∧ qa' 4 = qa 4) ∧ r = some (.int (qAwake a lv (S.1 24) (S.1 31) k y))) := by
  obtain ⟨hsp, hsp1, hsp2⟩ := hX.sp
  obtain ⟨hsl, hsl2⟩ := hX.sl
  obtain ⟨hcr, hcr2⟩ := hX.cr
  have hl64 : (swL a lv (S.1 24) (S.1 31) k (2 ^ S.1 24)).length ≤ 64 := Nat.le_trans (swL_len a lv (S.1 24) (S.1 31) k (2 ^ S.1 24)) (pow6 hsl2)
  refine Con.of (by decide) (Nat.le_of_ble_eq_true rfl) ?_
  refine XG.blk tX8_awake_ok 0 1 (pc' := 1) (pl' := [some (.ref 0), some (.int (nI k)), some (.int y), none]) (st' := [(.int (nI k))]) (W1 := (sW bv tv ta tb uv ua ub rv ra rb rt se pv pa gv ga ov oa qv qa hv ha nv na yv ya cf cs)) (bs := []) rfl rfl rfl ?_
  refine XG.br eX8_awake_1 (P := (nI k) < 0) (r := []) rfl (tgt := 20) (by decide) (fun h1 => ?_) (fun h1 => ?_)
  · exfalso
    have g1 : k < 0 := (nI_ltI (a := k) (b := 0) (by omega) (by omega)).mp h1
    omega
  · skip
    have g1 : ¬ k < 0 := (fun z_9 => h1 ((nI_ltI (a := k) (b := 0) (by omega) (by omega)).mpr z_9))
    have q1 : (qv 0) = (nI tn) := htn
    refine XG.blk tX8_awake_ok 2 4 (pc' := 12) (pl' := [some (.ref 0), some (.int (nI k)), some (.int y), none]) (st' := [(.int (qv 0)), (.int (nI k))]) (W1 := (sW bv tv ta tb uv ua ub rv ra rb rt se pv pa gv ga ov oa qv qa hv ha nv na yv ya cf cs)) (bs := []) rfl rfl rfl ?_
    simp only [q1]
    refine XG.br eX8_awake_12 (P := (nI tn) < (nI k)) (r := []) rfl (tgt := 20) (by decide) (fun h12 => ?_) (fun h12 => ?_)
    · exfalso
      have g12 : tn < k := (nI_ltI (a := tn) (b := k) (by omega) (by omega)).mp h12
      omega
    · skip
      have g12 : ¬ tn < k := (fun z_9 => h12 ((nI_ltI (a := tn) (b := k) (by omega) (by omega)).mpr z_9))
      refine XG.blk tX8_awake_ok 7 2 (pc' := 17) (pl' := [some (.ref 0), some (.int (nI k)), some (.int y), none]) (st' := [(.int (-1)), (.int y)]) (W1 := (sW bv tv ta tb uv ua ub rv ra rb rt se pv pa gv ga ov oa qv qa hv ha nv na yv ya cf cs)) (bs := []) rfl rfl rfl ?_
      refine XG.br eX8_awake_17 (P := (-1) ≤ y) (r := []) rfl (tgt := 22) (by decide) (fun h17 => ?_) (fun h17 => ?_)
      · skip
        refine XG.blk tX8_awake_ok 12 5 (pc' := 31) (pl' := [some (.ref 0), some (.int (nI k)), some (.int y), none]) (st' := [(.int (nI k)), (.ref 68), (.ref 58)]) (W1 := (sW bv tv ta tb uv ua ub rv ra rb rt se pv pa gv ga ov oa qv qa hv ha nv na yv ya cf cs)) (bs := []) rfl rfl rfl ?_
        refine XG.callV (ro := [58, 59, 60, 61, 62, 63, 64, 65, 66, 67, 37, 38, 1, 2, 3, 4, 5, 6, 7, 8, 9, 10, 11, 12, 13, 14, 15, 68, 69, 70, 71, 72]) (W1 := (qW qv qa hv ha se tv ta tb nv na)) eX8_awake_31 kl_X8_269 (cc_findSets (d - 1) qv qa hv ha se tv ta tb nv na S lv v a hX hN k (by omega) (fun i hi => hTo i (by omega)) (by omega)) (px_fitS (by omega)) rfl ⟨rfl, by decide, by decide⟩ rfl rfl (Nat.le_of_ble_eq_true rfl) (fun r9 W9 hp9 hl9 => ?_)
        obtain ⟨qv1, qa1, hv1, ha1, se1, sk1, rfl, hQ, hG, rfl⟩ := hp9
        rw [pt_sq]
        show XG _ _ _ _ _ _ [(.int (nI (swL a lv (S.1 24) (S.1 31) k (2 ^ S.1 24)).length))] (sW bv tv (va_up ta 22 sk1) tb uv ua ub rv ra rb rt se1 pv pa gv ga ov oa qv1 qa1 hv1 ha1 nv na yv ya cf cs)
        refine XG.blk tX8_awake_ok 18 3 (pc' := 37) (pl' := [some (.ref 0), some (.int (nI k)), some (.int y), some (.int (nI (swL a lv (S.1 24) (S.1 31) k (2 ^ S.1 24)).length))]) (st' := [(.int (-1)), (.int y)]) (W1 := (sW bv tv (va_up ta 22 sk1) tb uv ua ub rv ra rb rt se1 pv pa gv ga ov oa qv1 qa1 hv1 ha1 nv na yv ya cf cs)) (bs := []) rfl rfl rfl ?_
        refine XG.br eX8_awake_37 (P := ¬ y = (-1)) (r := []) rfl (tgt := 42) (by decide) (fun h37 => ?_) (fun h37 => ?_)
        · skip
          refine XG.blk tX8_awake_ok 24 2 (pc' := 44) (pl' := [some (.ref 0), some (.int (nI k)), some (.int y), some (.int (nI (swL a lv (S.1 24) (S.1 31) k (2 ^ S.1 24)).length))]) (st' := [(.int (nI (swL a lv (S.1 24) (S.1 31) k (2 ^ S.1 24)).length)), (.int y)]) (W1 := (sW bv tv (va_up ta 22 sk1) tb uv ua ub rv ra rb rt se1 pv pa gv ga ov oa qv1 qa1 hv1 ha1 nv na yv ya cf cs)) (bs := []) rfl rfl rfl ?_
          refine XG.br eX8_awake_44 (P := (nI (swL a lv (S.1 24) (S.1 31) k (2 ^ S.1 24)).length) ≤ y) (r := []) rfl (tgt := 59) (by decide) (fun h44 => ?_) (fun h44 => ?_)
          · skip
            refine XG.blk tX8_awake_ok 33 1 (pc' := 60) (pl' := [some (.ref 0), some (.int (nI k)), some (.int y), some (.int (nI (swL a lv (S.1 24) (S.1 31) k (2 ^ S.1 24)).length))]) (st' := [(.int (-1))]) (W1 := (sW bv tv (va_up ta 22 sk1) tb uv ua ub rv ra rb rt se1 pv pa gv ga ov oa qv1 qa1 hv1 ha1 nv na yv ya cf cs)) (bs := []) rfl rfl rfl ?_
            refine XS.iret eX8_awake_60 rfl rfl ?_
            refine ⟨_, _, _, _, _, _, rfl, (chg.up (by decide)), ⟨hQ.1.trans htn, hQ.2.2.2.1, hQ.2.2.2.2⟩, ?_⟩
            rw [qAwake_eq hsl2 a lv k y hy]
            rw [if_neg h37]
            rw [if_neg (Int32.not_lt.mpr h44)]
          · skip
            refine XG.blk tX8_awake_ok 27 5 (pc' := 56) (pl' := [some (.ref 0), some (.int (nI k)), some (.int y), some (.int (nI (swL a lv (S.1 24) (S.1 31) k (2 ^ S.1 24)).length))]) (st' := [(.int ((qa1 1) y.toNatClampNeg))]) (W1 := (sW bv tv (va_up ta 22 sk1) tb uv ua ub rv ra rb rt se1 pv pa gv ga ov oa qv1 qa1 hv1 ha1 nv na yv ya cf cs)) (bs := [px_vb y 64]) rfl rfl (px_all ((vb_le (aw_vb hy h37 (by omega) h44) hl64)) rfl) ?_
            refine XG.goto eX8_awake_56 (tgt := 60) (by decide) ?_
            refine XS.iret eX8_awake_60 rfl rfl ?_
            refine ⟨_, _, _, _, _, _, rfl, (chg.up (by decide)), ⟨hQ.1.trans htn, hQ.2.2.2.1, hQ.2.2.2.2⟩, ?_⟩
            rw [qAwake_eq hsl2 a lv k y hy]
            rw [if_neg h37]
            rw [if_pos (Int32.not_le.mp h44)]
            exact congrArg (fun z => some (Value.int z)) (hQ.2.2.1 _ (vb_cl (by omega) (aw_vb hy h37 (by omega) h44)))
        · skip
          have h37 := Decidable.not_not.mp h37
          refine XG.blk tX8_awake_ok 22 1 (pc' := 41) (pl' := [some (.ref 0), some (.int (nI k)), some (.int y), some (.int (nI (swL a lv (S.1 24) (S.1 31) k (2 ^ S.1 24)).length))]) (st' := [(.int (nI (swL a lv (S.1 24) (S.1 31) k (2 ^ S.1 24)).length))]) (W1 := (sW bv tv (va_up ta 22 sk1) tb uv ua ub rv ra rb rt se1 pv pa gv ga ov oa qv1 qa1 hv1 ha1 nv na yv ya cf cs)) (bs := []) rfl rfl rfl ?_
          refine XS.iret eX8_awake_41 rfl rfl ?_
          refine ⟨_, _, _, _, _, _, rfl, (chg.up (by decide)), ⟨hQ.1.trans htn, hQ.2.2.2.1, hQ.2.2.2.2⟩, ?_⟩
          rw [qAwake_eq hsl2 a lv k y hy]
          rw [if_pos h37]
      · exfalso
        exact h17 hy
set_option maxHeartbeats 1000000 in
theorem cs_awakeO (d : Nat) (bv : Nat → Int32) (tv : Nat → Int32) (ta : Nat → Nat → Int32) (tb : Nat → Nat → Int64) (uv : Nat → Int32) (ua : Nat → Nat → Int32) (ub : Nat → Nat → Int64) (rv : Nat → Int32) (ra : Nat → Nat → Int32) (rb : Nat → Nat → Int64) (rt : Value) (se : Nat → Int32) (pv : Nat → Int32) (pa : Nat → Nat → Int32) (gv : Nat → Int32) (ga : Nat → Nat → Int32) (ov : Nat → Int32) (oa : Nat → Nat → Int32) (qv : Nat → Int32) (qa : Nat → Nat → Int32) (hv : Nat → Int32) (ha : Nat → Nat → Int32) (nv : Nat → Int32) (na : Nat → Nat → Int32) (yv : Nat → Int32) (ya : Nat → Nat → Int32) (cf : Nat → Int32) (cs : Nat → Int32) (S : SD) (lv : Nat) (v : Nat → Int32) (a : Nat → Nat → Int32) (hX : CX S lv (aQ a) tv ta) (hN : CNt S (a 54) nv na) (tn : Nat) (htn : qv 0 = nI tn) (htn2 : tn ≤ 20) (hTo : ∀ i, i < tn → qa 3 i = a 70 i ∧ qa 4 i = a 71 i) (p y : Int32) (hno : ¬ okAw tn p y) (hd : 6 ≤ d) : Con mX8_awake d [.ref 0, .int p, .int y] (sW bv tv ta tb uv ua ub rv ra rb rt se pv pa gv ga ov oa qv qa hv ha nv na yv ya cf cs) (fun r W' => ∃ qv' qa' hv' ha' se' ta', W' = (sW bv tv ta' tb uv ua ub rv ra rb rt se' pv pa gv ga ov oa qv' qa' hv' ha' nv na yv ya cf cs) ∧ chg [22] ta ta' ∧ (qv' 0 = qv 0 ∧ qa' 3 = qa 3 ∧ qa' 4 = qa 4) ∧ r = some (.int (-1))) := by
  refine Con.of (by decide) (Nat.le_of_ble_eq_true rfl) ?_
  refine XG.blk tX8_awake_ok 0 1 (pc' := 1) (pl' := [some (.ref 0), some (.int p), some (.int y), none]) (st' := [(.int p)]) (W1 := (sW bv tv ta tb uv ua ub rv ra rb rt se pv pa gv ga ov oa qv qa hv ha nv na yv ya cf cs)) (bs := []) rfl rfl rfl ?_
  refine XG.br eX8_awake_1 (P := p < 0) (r := []) rfl (tgt := 20) (by decide) (fun h1 => ?_) (fun h1 => ?_)
  · skip
    refine XG.blk tX8_awake_ok 10 1 (pc' := 21) (pl' := [some (.ref 0), some (.int p), some (.int y), none]) (st' := [(.int (-1))]) (W1 := (sW bv tv ta tb uv ua ub rv ra rb rt se pv pa gv ga ov oa qv qa hv ha nv na yv ya cf cs)) (bs := []) rfl rfl rfl ?_
    refine XS.iret eX8_awake_21 rfl rfl ?_
    exact ⟨_, _, _, _, _, _, rfl, chg.rf, ⟨rfl, rfl, rfl⟩, rfl⟩
  · skip
    refine XG.blk tX8_awake_ok 2 4 (pc' := 12) (pl' := [some (.ref 0), some (.int p), some (.int y), none]) (st' := [(.int (qv 0)), (.int p)]) (W1 := (sW bv tv ta tb uv ua ub rv ra rb rt se pv pa gv ga ov oa qv qa hv ha nv na yv ya cf cs)) (bs := []) rfl rfl rfl ?_
    refine XG.br eX8_awake_12 (P := (qv 0) < p) (r := []) rfl (tgt := 20) (by decide) (fun h12 => ?_) (fun h12 => ?_)
    · skip
      refine XG.blk tX8_awake_ok 10 1 (pc' := 21) (pl' := [some (.ref 0), some (.int p), some (.int y), none]) (st' := [(.int (-1))]) (W1 := (sW bv tv ta tb uv ua ub rv ra rb rt se pv pa gv ga ov oa qv qa hv ha nv na yv ya cf cs)) (bs := []) rfl rfl rfl ?_
      refine XS.iret eX8_awake_21 rfl rfl ?_
      exact ⟨_, _, _, _, _, _, rfl, chg.rf, ⟨rfl, rfl, rfl⟩, rfl⟩
    · skip
      refine XG.blk tX8_awake_ok 7 2 (pc' := 17) (pl' := [some (.ref 0), some (.int p), some (.int y), none]) (st' := [(.int (-1)), (.int y)]) (W1 := (sW bv tv ta tb uv ua ub rv ra rb rt se pv pa gv ga ov oa qv qa hv ha nv na yv ya cf cs)) (bs := []) rfl rfl rfl ?_
      refine XG.br eX8_awake_17 (P := (-1) ≤ y) (r := []) rfl (tgt := 22) (by decide) (fun h17 => ?_) (fun h17 => ?_)
      · exfalso
        exact hno ⟨⟨Int32.not_lt.mp h1, by rw [← htn]; exact Int32.not_lt.mp h12⟩, h17⟩
      · skip
        refine XG.blk tX8_awake_ok 10 1 (pc' := 21) (pl' := [some (.ref 0), some (.int p), some (.int y), none]) (st' := [(.int (-1))]) (W1 := (sW bv tv ta tb uv ua ub rv ra rb rt se pv pa gv ga ov oa qv qa hv ha nv na yv ya cf cs)) (bs := []) rfl rfl rfl ?_
        refine XS.iret eX8_awake_21 rfl rfl ?_
        exact ⟨_, _, _, _, _, _, rfl, chg.rf, ⟨rfl, rfl, rfl⟩, rfl⟩
theorem cs_awake (d : Nat) (bv : Nat → Int32) (tv : Nat → Int32) (ta : Nat → Nat → Int32) (tb : Nat → Nat → Int64) (uv : Nat → Int32) (ua : Nat → Nat → Int32) (ub : Nat → Nat → Int64) (rv : Nat → Int32) (ra : Nat → Nat → Int32) (rb : Nat → Nat → Int64) (rt : Value) (se : Nat → Int32) (pv : Nat → Int32) (pa : Nat → Nat → Int32) (gv : Nat → Int32) (ga : Nat → Nat → Int32) (ov : Nat → Int32) (oa : Nat → Nat → Int32) (qv : Nat → Int32) (qa : Nat → Nat → Int32) (hv : Nat → Int32) (ha : Nat → Nat → Int32) (nv : Nat → Int32) (na : Nat → Nat → Int32) (yv : Nat → Int32) (ya : Nat → Nat → Int32) (cf : Nat → Int32) (cs : Nat → Int32) (S : SD) (lv : Nat) (v : Nat → Int32) (a : Nat → Nat → Int32) (hX : CX S lv (aQ a) tv ta) (hN : CNt S (a 54) nv na) (tn : Nat) (htn : qv 0 = nI tn) (htn2 : tn ≤ 20) (hTo : ∀ i, i < tn → qa 3 i = a 70 i ∧ qa 4 i = a 71 i) (p y : Int32) (hd : 6 ≤ d) : Con mX8_awake d [.ref 0, .int p, .int y] (sW bv tv ta tb uv ua ub rv ra rb rt se pv pa gv ga ov oa qv qa hv ha nv na yv ya cf cs) (fun r W' => ∃ qv' qa' hv' ha' se' ta', W' = (sW bv tv ta' tb uv ua ub rv ra rb rt se' pv pa gv ga ov oa qv' qa' hv' ha' nv na yv ya cf cs) ∧ chg [22] ta ta' ∧ (qv' 0 = qv 0 ∧ qa' 3 = qa 3 ∧ qa' 4 = qa 4) ∧ r = some (.int (if okAw tn p y then qAwake a lv (S.1 24) (S.1 31) p.toNatClampNeg y else -1))) := by
  by_cases hok : okAw tn p y
  · rw [if_pos hok]
    obtain ⟨k, -, hk, rfl⟩ := in_nat (by omega) (by omega) hok.1
    rw [nI_clamp (show k < 2 ^ 31 by omega)]
    exact cs_awakeI d bv tv ta tb uv ua ub rv ra rb rt se pv pa gv ga ov oa qv qa hv ha nv na yv ya cf cs S lv v a hX hN tn htn htn2 hTo k hk y hok.2 hd
  · rw [if_neg hok]
    exact cs_awakeO d bv tv ta tb uv ua ub rv ra rb rt se pv pa gv ga ov oa qv qa hv ha nv na yv ya cf cs S lv v a hX hN tn htn htn2 hTo p y hok hd
set_option maxHeartbeats 1000000 in
theorem cs_askI (d : Nat) (bv : Nat → Int32) (tv : Nat → Int32) (ta : Nat → Nat → Int32) (tb : Nat → Nat → Int64) (uv : Nat → Int32) (ua : Nat → Nat → Int32) (ub : Nat → Nat → Int64) (rv : Nat → Int32) (ra : Nat → Nat → Int32) (rb : Nat → Nat → Int64) (rt : Value) (se : Nat → Int32) (pv : Nat → Int32) (pa : Nat → Nat → Int32) (gv : Nat → Int32) (ga : Nat → Nat → Int32) (ov : Nat → Int32) (oa : Nat → Nat → Int32) (qv : Nat → Int32) (qa : Nat → Nat → Int32) (hv : Nat → Int32) (ha : Nat → Nat → Int32) (nv : Nat → Int32) (na : Nat → Nat → Int32) (yv : Nat → Int32) (ya : Nat → Nat → Int32) (cf : Nat → Int32) (cs : Nat → Int32) (S : SD) (lv : Nat) (v : Nat → Int32) (a : Nat → Nat → Int32) (hX : CX S lv (aQ a) tv ta) (hN : CNt S (a 54) nv na) (tn : Nat) (htn : qv 0 = nI tn) (htn2 : tn ≤ 20) (hTo : ∀ i, i < tn → qa 3 i = a 70 i ∧ qa 4 i = a 71 i) (hTq : ∀ i, i < tn → ∃ q w, q < S.1 23 ∧ w ≤ 999 ∧ a 70 i = nI q ∧ a 71 i = nI w) (k : Nat) (hk : k ≤ tn) (hd : 7 ≤ d) : Con mX8_ask d [.ref 0, .int (nI k)] (sW bv tv ta tb uv ua ub rv ra rb rt se pv pa gv ga ov oa qv qa hv ha nv na yv ya cf cs) (fun r W' => ∃ qv' qa' hv' ha' se' ta', W' = (sW bv tv ta' tb uv ua ub rv ra rb rt se' pv pa gv ga ov oa qv' qa' hv' ha' nv na yv ya cf cs) ∧ chg [22] ta ta' ∧ (qv' 0 = qv 0 ∧ qa' 3 = qa 3 ∧ qa' 4 = qa 4) ∧ r = some (.int (qAsk a lv (S.1 23) (S.1 24) (S.1 31) k))) := by
  obtain ⟨hsp, hsp1, hsp2⟩ := hX.sp
  obtain ⟨hsl, hsl2⟩ := hX.sl
  obtain ⟨hcr, hcr2⟩ := hX.cr
  have hl64 : (swL a lv (S.1 24) (S.1 31) k (2 ^ S.1 24)).length ≤ 64 := Nat.le_trans (swL_len a lv (S.1 24) (S.1 31) k (2 ^ S.1 24)) (pow6 hsl2)
  refine Con.of (by decide) (Nat.le_of_ble_eq_true rfl) ?_
  refine XG.blk tX8_ask_ok 0 1 (pc' := 1) (pl' := [some (.ref 0), some (.int (nI k))]) (st' := [(.int (nI k))]) (W1 := (sW bv tv ta tb uv ua ub rv ra rb rt se pv pa gv ga ov oa qv qa hv ha nv na yv ya cf cs)) (bs := []) rfl rfl rfl ?_
  refine XG.br eX8_ask_1 (P := (nI k) < 0) (r := []) rfl (tgt := 15) (by decide) (fun h1 => ?_) (fun h1 => ?_)
  · exfalso
    have g1 : k < 0 := (nI_ltI (a := k) (b := 0) (by omega) (by omega)).mp h1
    omega
  · skip
    have g1 : ¬ k < 0 := (fun z_9 => h1 ((nI_ltI (a := k) (b := 0) (by omega) (by omega)).mpr z_9))
    have q1 : (qv 0) = (nI tn) := htn
    refine XG.blk tX8_ask_ok 2 4 (pc' := 12) (pl' := [some (.ref 0), some (.int (nI k))]) (st' := [(.int (qv 0)), (.int (nI k))]) (W1 := (sW bv tv ta tb uv ua ub rv ra rb rt se pv pa gv ga ov oa qv qa hv ha nv na yv ya cf cs)) (bs := []) rfl rfl rfl ?_
    simp only [q1]
    refine XG.br eX8_ask_12 (P := (nI k) ≤ (nI tn)) (r := []) rfl (tgt := 17) (by decide) (fun h12 => ?_) (fun h12 => ?_)
    · skip
      have g12 : k ≤ tn := (nI_leI (a := k) (b := tn) (by omega) (by omega)).mp h12
      refine XG.blk tX8_ask_ok 9 5 (pc' := 26) (pl' := [some (.ref 0), some (.int (nI k))]) (st' := [(.int (nI k)), (.ref 68), (.ref 58)]) (W1 := (sW bv tv ta tb uv ua ub rv ra rb rt se pv pa gv ga ov oa qv qa hv ha nv na yv ya cf cs)) (bs := []) rfl rfl rfl ?_
      refine XG.callV (ro := [58, 59, 60, 61, 62, 63, 64, 65, 66, 67, 37, 38, 1, 2, 3, 4, 5, 6, 7, 8, 9, 10, 11, 12, 13, 14, 15, 68, 69, 70, 71, 72]) (W1 := (qW qv qa hv ha se tv ta tb nv na)) eX8_ask_26 kl_X8_269 (cc_findSets (d - 1) qv qa hv ha se tv ta tb nv na S lv v a hX hN k (by omega) (fun i hi => hTo i (by omega)) (by omega)) (px_fitS (by omega)) rfl ⟨rfl, by decide, by decide⟩ rfl rfl (Nat.le_of_ble_eq_true rfl) (fun r9 W9 hp9 hl9 => ?_)
      obtain ⟨qv1, qa1, hv1, ha1, se1, sk1, rfl, hQ, hG, rfl⟩ := hp9
      rw [pt_sq]
      show XG _ _ _ _ _ _ [(.int (nI (swL a lv (S.1 24) (S.1 31) k (2 ^ S.1 24)).length))] (sW bv tv (va_up ta 22 sk1) tb uv ua ub rv ra rb rt se1 pv pa gv ga ov oa qv1 qa1 hv1 ha1 nv na yv ya cf cs)
      refine XG.br eX8_ask_29 (P := ¬ (nI (swL a lv (S.1 24) (S.1 31) k (2 ^ S.1 24)).length) = 0) (r := []) rfl (tgt := 37) (by decide) (fun h29 => ?_) (fun h29 => ?_)
      · skip
        have g29 : ¬ (swL a lv (S.1 24) (S.1 31) k (2 ^ S.1 24)).length = 0 := (fun z_9 => h29 ((nI_eq (a := (swL a lv (S.1 24) (S.1 31) k (2 ^ S.1 24)).length) (b := 0) (by omega) (by omega)).mpr z_9))
        refine XG.blk tX8_ask_ok 18 2 (pc' := 41) (pl' := [some (.ref 0), some (.int (nI k))]) (st' := [(.ref 58)]) (W1 := (sW bv tv (va_up ta 22 sk1) tb uv ua ub rv ra rb rt se1 pv pa gv ga ov oa qv1 qa1 hv1 ha1 nv na yv ya cf cs)) (bs := []) rfl rfl rfl ?_
        refine XG.callV (ro := [58, 59, 60, 61, 62, 63, 64, 65, 66, 67, 37, 38, 1, 2, 3, 4, 5, 6, 7, 8, 9, 10, 11, 12, 13, 14, 15, 68, 69, 70, 71, 72]) (W1 := (qW qv1 qa1 hv1 ha1 se1 tv (va_up ta 22 sk1) tb nv na)) eX8_ask_41 kl_X8_275 (cc_bestQuestion (d - 1) qv1 qa1 hv1 ha1 se1 tv (va_up ta 22 sk1) tb nv na S lv v a hX hN k hQ.2.1 hQ.2.2.1 hG (by omega)) (px_fitS (by omega)) rfl ⟨rfl, by decide, by decide⟩ rfl rfl (Nat.le_of_ble_eq_true rfl) (fun r9 W9 hp9 hl9 => ?_)
        obtain ⟨qa2, hv2, se2, sk2, rfl, hQ2, hG2, rfl⟩ := hp9
        rw [pt_sq]
        show XG _ _ _ _ _ _ [(.int ((itN (bqF (fun p => mlF (fun j => akB a lv (S.1 24) (S.1 31) ((swL a lv (S.1 24) (S.1 31) k (2 ^ S.1 24)).getD j 0) p) (swL a lv (S.1 24) (S.1 31) k (2 ^ S.1 24)).length)) (nI 0, nI 65) (S.1 23)).1))] (sW bv tv (va_up ta 22 sk2) tb uv ua ub rv ra rb rt se2 pv pa gv ga ov oa qv1 qa2 hv2 ha1 nv na yv ya cf cs)
        refine XS.iret eX8_ask_44 rfl rfl ?_
        refine ⟨_, _, _, _, _, _, rfl, (chg.up (by decide)), ⟨hQ.1.trans htn, hQ2.2.1.trans hQ.2.2.2.1, hQ2.2.2.trans hQ.2.2.2.2⟩, ?_⟩
        rw [qAsk_eq hX k (fun i hi => hTq i (by omega)), if_neg g29]
      · skip
        have h29 := Decidable.not_not.mp h29
        have g29 : (swL a lv (S.1 24) (S.1 31) k (2 ^ S.1 24)).length = 0 := (nI_eq (a := (swL a lv (S.1 24) (S.1 31) k (2 ^ S.1 24)).length) (b := 0) (by omega) (by omega)).mp h29
        refine XG.blk tX8_ask_ok 16 1 (pc' := 34) (pl' := [some (.ref 0), some (.int (nI k))]) (st' := [(.int (-2))]) (W1 := (sW bv tv (va_up ta 22 sk1) tb uv ua ub rv ra rb rt se1 pv pa gv ga ov oa qv1 qa1 hv1 ha1 nv na yv ya cf cs)) (bs := []) rfl rfl rfl ?_
        refine XG.goto eX8_ask_34 (tgt := 44) (by decide) ?_
        refine XS.iret eX8_ask_44 rfl rfl ?_
        refine ⟨_, _, _, _, _, _, rfl, (chg.up (by decide)), ⟨hQ.1.trans htn, hQ.2.2.2.1, hQ.2.2.2.2⟩, ?_⟩
        rw [qAsk_eq hX k (fun i hi => hTq i (by omega)), if_pos g29]
    · exfalso
      have g12 : ¬ k ≤ tn := (fun z_9 => h12 ((nI_leI (a := k) (b := tn) (by omega) (by omega)).mpr z_9))
      omega
set_option maxHeartbeats 1000000 in
theorem cs_askO (d : Nat) (bv : Nat → Int32) (tv : Nat → Int32) (ta : Nat → Nat → Int32) (tb : Nat → Nat → Int64) (uv : Nat → Int32) (ua : Nat → Nat → Int32) (ub : Nat → Nat → Int64) (rv : Nat → Int32) (ra : Nat → Nat → Int32) (rb : Nat → Nat → Int64) (rt : Value) (se : Nat → Int32) (pv : Nat → Int32) (pa : Nat → Nat → Int32) (gv : Nat → Int32) (ga : Nat → Nat → Int32) (ov : Nat → Int32) (oa : Nat → Nat → Int32) (qv : Nat → Int32) (qa : Nat → Nat → Int32) (hv : Nat → Int32) (ha : Nat → Nat → Int32) (nv : Nat → Int32) (na : Nat → Nat → Int32) (yv : Nat → Int32) (ya : Nat → Nat → Int32) (cf : Nat → Int32) (cs : Nat → Int32) (S : SD) (lv : Nat) (v : Nat → Int32) (a : Nat → Nat → Int32) (hX : CX S lv (aQ a) tv ta) (hN : CNt S (a 54) nv na) (tn : Nat) (htn : qv 0 = nI tn) (htn2 : tn ≤ 20) (hTo : ∀ i, i < tn → qa 3 i = a 70 i ∧ qa 4 i = a 71 i) (hTq : ∀ i, i < tn → ∃ q w, q < S.1 23 ∧ w ≤ 999 ∧ a 70 i = nI q ∧ a 71 i = nI w) (p : Int32) (hno : ¬ (nI 0 ≤ p ∧ p ≤ nI tn)) (hd : 7 ≤ d) : Con mX8_ask d [.ref 0, .int p] (sW bv tv ta tb uv ua ub rv ra rb rt se pv pa gv ga ov oa qv qa hv ha nv na yv ya cf cs) (fun r W' => ∃ qv' qa' hv' ha' se' ta', W' = (sW bv tv ta' tb uv ua ub rv ra rb rt se' pv pa gv ga ov oa qv' qa' hv' ha' nv na yv ya cf cs) ∧ chg [22] ta ta' ∧ (qv' 0 = qv 0 ∧ qa' 3 = qa 3 ∧ qa' 4 = qa 4) ∧ r = some (.int (-1))) := by
  refine Con.of (by decide) (Nat.le_of_ble_eq_true rfl) ?_
  refine XG.blk tX8_ask_ok 0 1 (pc' := 1) (pl' := [some (.ref 0), some (.int p)]) (st' := [(.int p)]) (W1 := (sW bv tv ta tb uv ua ub rv ra rb rt se pv pa gv ga ov oa qv qa hv ha nv na yv ya cf cs)) (bs := []) rfl rfl rfl ?_
  refine XG.br eX8_ask_1 (P := p < 0) (r := []) rfl (tgt := 15) (by decide) (fun h1 => ?_) (fun h1 => ?_)
  · skip
    refine XG.blk tX8_ask_ok 7 1 (pc' := 16) (pl' := [some (.ref 0), some (.int p)]) (st' := [(.int (-1))]) (W1 := (sW bv tv ta tb uv ua ub rv ra rb rt se pv pa gv ga ov oa qv qa hv ha nv na yv ya cf cs)) (bs := []) rfl rfl rfl ?_
    refine XS.iret eX8_ask_16 rfl rfl ?_
    exact ⟨_, _, _, _, _, _, rfl, chg.rf, ⟨rfl, rfl, rfl⟩, rfl⟩
  · skip
    refine XG.blk tX8_ask_ok 2 4 (pc' := 12) (pl' := [some (.ref 0), some (.int p)]) (st' := [(.int (qv 0)), (.int p)]) (W1 := (sW bv tv ta tb uv ua ub rv ra rb rt se pv pa gv ga ov oa qv qa hv ha nv na yv ya cf cs)) (bs := []) rfl rfl rfl ?_
    refine XG.br eX8_ask_12 (P := p ≤ (qv 0)) (r := []) rfl (tgt := 17) (by decide) (fun h12 => ?_) (fun h12 => ?_)
    · exfalso
      exact hno ⟨Int32.not_lt.mp h1, by rw [← htn]; exact h12⟩
    · skip
      refine XG.blk tX8_ask_ok 7 1 (pc' := 16) (pl' := [some (.ref 0), some (.int p)]) (st' := [(.int (-1))]) (W1 := (sW bv tv ta tb uv ua ub rv ra rb rt se pv pa gv ga ov oa qv qa hv ha nv na yv ya cf cs)) (bs := []) rfl rfl rfl ?_
      refine XS.iret eX8_ask_16 rfl rfl ?_
      exact ⟨_, _, _, _, _, _, rfl, chg.rf, ⟨rfl, rfl, rfl⟩, rfl⟩
theorem cs_ask (d : Nat) (bv : Nat → Int32) (tv : Nat → Int32) (ta : Nat → Nat → Int32) (tb : Nat → Nat → Int64) (uv : Nat → Int32) (ua : Nat → Nat → Int32) (ub : Nat → Nat → Int64) (rv : Nat → Int32) (ra : Nat → Nat → Int32) (rb : Nat → Nat → Int64) (rt : Value) (se : Nat → Int32) (pv : Nat → Int32) (pa : Nat → Nat → Int32) (gv : Nat → Int32) (ga : Nat → Nat → Int32) (ov : Nat → Int32) (oa : Nat → Nat → Int32) (qv : Nat → Int32) (qa : Nat → Nat → Int32) (hv : Nat → Int32) (ha : Nat → Nat → Int32) (nv : Nat → Int32) (na : Nat → Nat → Int32) (yv : Nat → Int32) (ya : Nat → Nat → Int32) (cf : Nat → Int32) (cs : Nat → Int32) (S : SD) (lv : Nat) (v : Nat → Int32) (a : Nat → Nat → Int32) (hX : CX S lv (aQ a) tv ta) (hN : CNt S (a 54) nv na) (tn : Nat) (htn : qv 0 = nI tn) (htn2 : tn ≤ 20) (hTo : ∀ i, i < tn → qa 3 i = a 70 i ∧ qa 4 i = a 71 i) (hTq : ∀ i, i < tn → ∃ q w, q < S.1 23 ∧ w ≤ 999 ∧ a 70 i = nI q ∧ a 71 i = nI w) (p : Int32) (hd : 7 ≤ d) : Con mX8_ask d [.ref 0, .int p] (sW bv tv ta tb uv ua ub rv ra rb rt se pv pa gv ga ov oa qv qa hv ha nv na yv ya cf cs) (fun r W' => ∃ qv' qa' hv' ha' se' ta', W' = (sW bv tv ta' tb uv ua ub rv ra rb rt se' pv pa gv ga ov oa qv' qa' hv' ha' nv na yv ya cf cs) ∧ chg [22] ta ta' ∧ (qv' 0 = qv 0 ∧ qa' 3 = qa 3 ∧ qa' 4 = qa 4) ∧ r = some (.int (if nI 0 ≤ p ∧ p ≤ nI tn then qAsk a lv (S.1 23) (S.1 24) (S.1 31) p.toNatClampNeg else -1))) := by
  by_cases hok : nI 0 ≤ p ∧ p ≤ nI tn
  · rw [if_pos hok]
    obtain ⟨k, -, hk, rfl⟩ := in_nat (by omega) (by omega) hok
    rw [nI_clamp (show k < 2 ^ 31 by omega)]
    exact cs_askI d bv tv ta tb uv ua ub rv ra rb rt se pv pa gv ga ov oa qv qa hv ha nv na yv ya cf cs S lv v a hX hN tn htn htn2 hTo hTq k hk hd
  · rw [if_neg hok]
    exact cs_askO d bv tv ta tb uv ua ub rv ra rb rt se pv pa gv ga ov oa qv qa hv ha nv na yv ya cf cs S lv v a hX hN tn htn htn2 hTo hTq p hok hd
set_option maxHeartbeats 1000000 in
theorem cs_tellF (d : Nat) (bv : Nat → Int32) (tv : Nat → Int32) (ta : Nat → Nat → Int32) (tb : Nat → Nat → Int64) (uv : Nat → Int32) (ua : Nat → Nat → Int32) (ub : Nat → Nat → Int64) (rv : Nat → Int32) (ra : Nat → Nat → Int32) (rb : Nat → Nat → Int64) (rt : Value) (se : Nat → Int32) (pv : Nat → Int32) (pa : Nat → Nat → Int32) (gv : Nat → Int32) (ga : Nat → Nat → Int32) (ov : Nat → Int32) (oa : Nat → Nat → Int32) (qv : Nat → Int32) (qa : Nat → Nat → Int32) (hv : Nat → Int32) (ha : Nat → Nat → Int32) (nv : Nat → Int32) (na : Nat → Nat → Int32) (yv : Nat → Int32) (ya : Nat → Nat → Int32) (cf : Nat → Int32) (cs : Nat → Int32) (S : SD) (lv : Nat) (a : Nat → Nat → Int32) (hX : CX S lv (aQ a) tv ta) (tn : Nat) (htn : qv 0 = nI tn) (htn2 : tn ≤ 20) (h20 : tn = 20) (p y : Int32) (hd : 2 ≤ d) : Con mX8_tell d [.ref 0, .int p, .int y] (sW bv tv ta tb uv ua ub rv ra rb rt se pv pa gv ga ov oa qv qa hv ha nv na yv ya cf cs) (fun r W' => (¬ (¬ tn = 20 ∧ px_vb p (S.1 23) = true ∧ (nI 0 ≤ y ∧ y ≤ nI 999)) ∧ W' = (sW bv tv ta tb uv ua ub rv ra rb rt se pv pa gv ga ov oa qv qa hv ha nv na yv ya cf cs) ∧ r = some (.int (-1))) ∨ ((¬ tn = 20 ∧ px_vb p (S.1 23) = true ∧ (nI 0 ≤ y ∧ y ≤ nI 999)) ∧ W' = (sW bv tv ta tb uv ua ub rv ra rb rt se pv pa gv ga ov oa (va_up qv 0 (nI (tn + 1))) (va_up (va_up qa 3 (upd (qa 3) tn p)) 4 (upd (qa 4) tn y)) hv ha nv na yv ya cf cs) ∧ r = some (.int (nI tn)))) := by
  refine Con.of (by decide) (Nat.le_of_ble_eq_true rfl) ?_
  refine XG.blk tX8_tell_ok 0 2 (pc' := 2) (pl' := [some (.ref 0), some (.int p), some (.int y)]) (st' := [(.int p), (.ref 0)]) (W1 := (sW bv tv ta tb uv ua ub rv ra rb rt se pv pa gv ga ov oa qv qa hv ha nv na yv ya cf cs)) (bs := []) rfl rfl rfl ?_
  refine XG.callV0 eX8_tell_2 kl_X8_136 (cs_isSpan (d - 1) bv tv ta tb uv ua ub rv ra rb rt se pv pa gv ga ov oa qv qa hv ha nv na yv ya cf cs p) (px_fitS (by omega)) rfl rfl rfl (Nat.le_of_ble_eq_true rfl) (fun r9 W9 hp9 hl9 => ?_)
  obtain ⟨rfl, rfl⟩ := hp9
  refine XG.br eX8_tell_5 (P := (if 0 ≤ p ∧ p < tv 0 then 1 else 0) = 0) (r := []) rfl (tgt := 31) (by decide) (fun h5 => ?_) (fun h5 => ?_)
  · skip
    refine XG.blk tX8_tell_ok 15 1 (pc' := 32) (pl' := [some (.ref 0), some (.int p), some (.int y)]) (st' := [(.int (-1))]) (W1 := (sW bv tv ta tb uv ua ub rv ra rb rt se pv pa gv ga ov oa qv qa hv ha nv na yv ya cf cs)) (bs := []) rfl rfl rfl ?_
    refine XS.iret eX8_tell_32 rfl rfl ?_
    exact Or.inl ⟨fun w => by first | exact one_ne.mp h5 ((hX.isP p).mpr w.2.1) | exact Int32.not_lt.mpr w.2.2.1 h9 | exact Int32.not_lt.mpr w.2.2.2 h16, rfl, rfl⟩
  · skip
    refine XG.blk tX8_tell_ok 4 1 (pc' := 9) (pl' := [some (.ref 0), some (.int p), some (.int y)]) (st' := [(.int y)]) (W1 := (sW bv tv ta tb uv ua ub rv ra rb rt se pv pa gv ga ov oa qv qa hv ha nv na yv ya cf cs)) (bs := []) rfl rfl rfl ?_
    refine XG.br eX8_tell_9 (P := y < 0) (r := []) rfl (tgt := 31) (by decide) (fun h9 => ?_) (fun h9 => ?_)
    · skip
      refine XG.blk tX8_tell_ok 15 1 (pc' := 32) (pl' := [some (.ref 0), some (.int p), some (.int y)]) (st' := [(.int (-1))]) (W1 := (sW bv tv ta tb uv ua ub rv ra rb rt se pv pa gv ga ov oa qv qa hv ha nv na yv ya cf cs)) (bs := []) rfl rfl rfl ?_
      refine XS.iret eX8_tell_32 rfl rfl ?_
      exact Or.inl ⟨fun w => by first | exact one_ne.mp h5 ((hX.isP p).mpr w.2.1) | exact Int32.not_lt.mpr w.2.2.1 h9 | exact Int32.not_lt.mpr w.2.2.2 h16, rfl, rfl⟩
    · skip
      refine XG.blk tX8_tell_ok 6 2 (pc' := 16) (pl' := [some (.ref 0), some (.int p), some (.int y)]) (st' := [(.int (nI 999)), (.int y)]) (W1 := (sW bv tv ta tb uv ua ub rv ra rb rt se pv pa gv ga ov oa qv qa hv ha nv na yv ya cf cs)) (bs := []) rfl rfl rfl ?_
      refine XG.br eX8_tell_16 (P := (nI 999) < y) (r := []) rfl (tgt := 31) (by decide) (fun h16 => ?_) (fun h16 => ?_)
      · skip
        refine XG.blk tX8_tell_ok 15 1 (pc' := 32) (pl' := [some (.ref 0), some (.int p), some (.int y)]) (st' := [(.int (-1))]) (W1 := (sW bv tv ta tb uv ua ub rv ra rb rt se pv pa gv ga ov oa qv qa hv ha nv na yv ya cf cs)) (bs := []) rfl rfl rfl ?_
        refine XS.iret eX8_tell_32 rfl rfl ?_
        exact Or.inl ⟨fun w => by first | exact one_ne.mp h5 ((hX.isP p).mpr w.2.1) | exact Int32.not_lt.mpr w.2.2.1 h9 | exact Int32.not_lt.mpr w.2.2.2 h16, rfl, rfl⟩
      · skip
        refine XG.blk tX8_tell_ok 9 4 (pc' := 25) (pl' := [some (.ref 0), some (.int p), some (.int y)]) (st' := [(.int y), (.int p), (.ref 58)]) (W1 := (sW bv tv ta tb uv ua ub rv ra rb rt se pv pa gv ga ov oa qv qa hv ha nv na yv ya cf cs)) (bs := []) rfl rfl rfl ?_
        refine XG.callV (ro := [58, 59, 60, 61, 62, 63, 64, 65, 66, 67, 37, 38, 1, 2, 3, 4, 5, 6, 7, 8, 9, 10, 11, 12, 13, 14, 15, 68, 69, 70, 71, 72]) (W1 := (qW qv qa hv ha se tv ta tb nv na)) eX8_tell_25 kl_X8_263 (cc_add (d - 1) qv qa hv ha se tv ta tb nv na tn htn htn2 p y) (px_fitS (by omega)) rfl ⟨rfl, by decide, by decide⟩ rfl rfl (Nat.le_of_ble_eq_true rfl) (fun r9 W9 hp9 hl9 => ?_)
        obtain ⟨-, rfl, rfl⟩ := hp9.resolve_right (fun w => absurd w.1 (by omega))
        rw [pt_sq]
        show XG _ _ _ _ _ _ [(.int (-1))] (sW bv tv ta tb uv ua ub rv ra rb rt se pv pa gv ga ov oa qv qa hv ha nv na yv ya cf cs)
        refine XG.goto eX8_tell_28 (tgt := 32) (by decide) ?_
        refine XS.iret eX8_tell_32 rfl rfl ?_
        exact Or.inl ⟨fun w => w.1 h20, rfl, rfl⟩
set_option maxHeartbeats 1000000 in
theorem cs_tellS (d : Nat) (bv : Nat → Int32) (tv : Nat → Int32) (ta : Nat → Nat → Int32) (tb : Nat → Nat → Int64) (uv : Nat → Int32) (ua : Nat → Nat → Int32) (ub : Nat → Nat → Int64) (rv : Nat → Int32) (ra : Nat → Nat → Int32) (rb : Nat → Nat → Int64) (rt : Value) (se : Nat → Int32) (pv : Nat → Int32) (pa : Nat → Nat → Int32) (gv : Nat → Int32) (ga : Nat → Nat → Int32) (ov : Nat → Int32) (oa : Nat → Nat → Int32) (qv : Nat → Int32) (qa : Nat → Nat → Int32) (hv : Nat → Int32) (ha : Nat → Nat → Int32) (nv : Nat → Int32) (na : Nat → Nat → Int32) (yv : Nat → Int32) (ya : Nat → Nat → Int32) (cf : Nat → Int32) (cs : Nat → Int32) (S : SD) (lv : Nat) (a : Nat → Nat → Int32) (hX : CX S lv (aQ a) tv ta) (tn : Nat) (htn : qv 0 = nI tn) (htn2 : tn ≤ 20) (h20 : ¬ tn = 20) (p y : Int32) (hd : 2 ≤ d) : Con mX8_tell d [.ref 0, .int p, .int y] (sW bv tv ta tb uv ua ub rv ra rb rt se pv pa gv ga ov oa qv qa hv ha nv na yv ya cf cs) (fun r W' => (¬ (¬ tn = 20 ∧ px_vb p (S.1 23) = true ∧ (nI 0 ≤ y ∧ y ≤ nI 999)) ∧ W' = (sW bv tv ta tb uv ua ub rv ra rb rt se pv pa gv ga ov oa qv qa hv ha nv na yv ya cf cs) ∧ r = some (.int (-1))) ∨ ((¬ tn = 20 ∧ px_vb p (S.1 23) = true ∧ (nI 0 ≤ y ∧ y ≤ nI 999)) ∧ W' = (sW bv tv ta tb uv ua ub rv ra rb rt se pv pa gv ga ov oa (va_up qv 0 (nI (tn + 1))) (va_up (va_up qa 3 (upd (qa 3) tn p)) 4 (upd (qa 4) tn y)) hv ha nv na yv ya cf cs) ∧ r = some (.int (nI tn)))) := by
  refine Con.of (by decide) (Nat.le_of_ble_eq_true rfl) ?_
  refine XG.blk tX8_tell_ok 0 2 (pc' := 2) (pl' := [some (.ref 0), some (.int p), some (.int y)]) (st' := [(.int p), (.ref 0)]) (W1 := (sW bv tv ta tb uv ua ub rv ra rb rt se pv pa gv ga ov oa qv qa hv ha nv na yv ya cf cs)) (bs := []) rfl rfl rfl ?_
  refine XG.callV0 eX8_tell_2 kl_X8_136 (cs_isSpan (d - 1) bv tv ta tb uv ua ub rv ra rb rt se pv pa gv ga ov oa qv qa hv ha nv na yv ya cf cs p) (px_fitS (by omega)) rfl rfl rfl (Nat.le_of_ble_eq_true rfl) (fun r9 W9 hp9 hl9 => ?_)
  obtain ⟨rfl, rfl⟩ := hp9
  refine XG.br eX8_tell_5 (P := (if 0 ≤ p ∧ p < tv 0 then 1 else 0) = 0) (r := []) rfl (tgt := 31) (by decide) (fun h5 => ?_) (fun h5 => ?_)
  · skip
    refine XG.blk tX8_tell_ok 15 1 (pc' := 32) (pl' := [some (.ref 0), some (.int p), some (.int y)]) (st' := [(.int (-1))]) (W1 := (sW bv tv ta tb uv ua ub rv ra rb rt se pv pa gv ga ov oa qv qa hv ha nv na yv ya cf cs)) (bs := []) rfl rfl rfl ?_
    refine XS.iret eX8_tell_32 rfl rfl ?_
    exact Or.inl ⟨fun w => by first | exact one_ne.mp h5 ((hX.isP p).mpr w.2.1) | exact Int32.not_lt.mpr w.2.2.1 h9 | exact Int32.not_lt.mpr w.2.2.2 h16, rfl, rfl⟩
  · skip
    refine XG.blk tX8_tell_ok 4 1 (pc' := 9) (pl' := [some (.ref 0), some (.int p), some (.int y)]) (st' := [(.int y)]) (W1 := (sW bv tv ta tb uv ua ub rv ra rb rt se pv pa gv ga ov oa qv qa hv ha nv na yv ya cf cs)) (bs := []) rfl rfl rfl ?_
    refine XG.br eX8_tell_9 (P := y < 0) (r := []) rfl (tgt := 31) (by decide) (fun h9 => ?_) (fun h9 => ?_)
    · skip
      refine XG.blk tX8_tell_ok 15 1 (pc' := 32) (pl' := [some (.ref 0), some (.int p), some (.int y)]) (st' := [(.int (-1))]) (W1 := (sW bv tv ta tb uv ua ub rv ra rb rt se pv pa gv ga ov oa qv qa hv ha nv na yv ya cf cs)) (bs := []) rfl rfl rfl ?_
      refine XS.iret eX8_tell_32 rfl rfl ?_
      exact Or.inl ⟨fun w => by first | exact one_ne.mp h5 ((hX.isP p).mpr w.2.1) | exact Int32.not_lt.mpr w.2.2.1 h9 | exact Int32.not_lt.mpr w.2.2.2 h16, rfl, rfl⟩
    · skip
      refine XG.blk tX8_tell_ok 6 2 (pc' := 16) (pl' := [some (.ref 0), some (.int p), some (.int y)]) (st' := [(.int (nI 999)), (.int y)]) (W1 := (sW bv tv ta tb uv ua ub rv ra rb rt se pv pa gv ga ov oa qv qa hv ha nv na yv ya cf cs)) (bs := []) rfl rfl rfl ?_
      refine XG.br eX8_tell_16 (P := (nI 999) < y) (r := []) rfl (tgt := 31) (by decide) (fun h16 => ?_) (fun h16 => ?_)
      · skip
        refine XG.blk tX8_tell_ok 15 1 (pc' := 32) (pl' := [some (.ref 0), some (.int p), some (.int y)]) (st' := [(.int (-1))]) (W1 := (sW bv tv ta tb uv ua ub rv ra rb rt se pv pa gv ga ov oa qv qa hv ha nv na yv ya cf cs)) (bs := []) rfl rfl rfl ?_
        refine XS.iret eX8_tell_32 rfl rfl ?_
        exact Or.inl ⟨fun w => by first | exact one_ne.mp h5 ((hX.isP p).mpr w.2.1) | exact Int32.not_lt.mpr w.2.2.1 h9 | exact Int32.not_lt.mpr w.2.2.2 h16, rfl, rfl⟩
      · skip
        refine XG.blk tX8_tell_ok 9 4 (pc' := 25) (pl' := [some (.ref 0), some (.int p), some (.int y)]) (st' := [(.int y), (.int p), (.ref 58)]) (W1 := (sW bv tv ta tb uv ua ub rv ra rb rt se pv pa gv ga ov oa qv qa hv ha nv na yv ya cf cs)) (bs := []) rfl rfl rfl ?_
        refine XG.callV (ro := [58, 59, 60, 61, 62, 63, 64, 65, 66, 67, 37, 38, 1, 2, 3, 4, 5, 6, 7, 8, 9, 10, 11, 12, 13, 14, 15, 68, 69, 70, 71, 72]) (W1 := (qW qv qa hv ha se tv ta tb nv na)) eX8_tell_25 kl_X8_263 (cc_add (d - 1) qv qa hv ha se tv ta tb nv na tn htn htn2 p y) (px_fitS (by omega)) rfl ⟨rfl, by decide, by decide⟩ rfl rfl (Nat.le_of_ble_eq_true rfl) (fun r9 W9 hp9 hl9 => ?_)
        obtain ⟨-, rfl, rfl⟩ := hp9.resolve_left (fun w => absurd w.1 (by omega))
        rw [pt_sq]
        show XG _ _ _ _ _ _ [(.int (nI tn))] (sW bv tv ta tb uv ua ub rv ra rb rt se pv pa gv ga ov oa (va_up qv 0 (nI (tn + 1))) (va_up (va_up qa 3 (upd (qa 3) tn p)) 4 (upd (qa 4) tn y)) hv ha nv na yv ya cf cs)
        refine XG.goto eX8_tell_28 (tgt := 32) (by decide) ?_
        refine XS.iret eX8_tell_32 rfl rfl ?_
        exact Or.inr ⟨⟨h20, (hX.isP p).mp (is_ne h5), Int32.not_lt.mp h9, Int32.not_lt.mp h16⟩, rfl, rfl⟩
theorem cs_tell (d : Nat) (bv : Nat → Int32) (tv : Nat → Int32) (ta : Nat → Nat → Int32) (tb : Nat → Nat → Int64) (uv : Nat → Int32) (ua : Nat → Nat → Int32) (ub : Nat → Nat → Int64) (rv : Nat → Int32) (ra : Nat → Nat → Int32) (rb : Nat → Nat → Int64) (rt : Value) (se : Nat → Int32) (pv : Nat → Int32) (pa : Nat → Nat → Int32) (gv : Nat → Int32) (ga : Nat → Nat → Int32) (ov : Nat → Int32) (oa : Nat → Nat → Int32) (qv : Nat → Int32) (qa : Nat → Nat → Int32) (hv : Nat → Int32) (ha : Nat → Nat → Int32) (nv : Nat → Int32) (na : Nat → Nat → Int32) (yv : Nat → Int32) (ya : Nat → Nat → Int32) (cf : Nat → Int32) (cs : Nat → Int32) (S : SD) (lv : Nat) (a : Nat → Nat → Int32) (hX : CX S lv (aQ a) tv ta) (tn : Nat) (htn : qv 0 = nI tn) (htn2 : tn ≤ 20) (p y : Int32) (hd : 2 ≤ d) : Con mX8_tell d [.ref 0, .int p, .int y] (sW bv tv ta tb uv ua ub rv ra rb rt se pv pa gv ga ov oa qv qa hv ha nv na yv ya cf cs) (fun r W' => (¬ (¬ tn = 20 ∧ px_vb p (S.1 23) = true ∧ (nI 0 ≤ y ∧ y ≤ nI 999)) ∧ W' = (sW bv tv ta tb uv ua ub rv ra rb rt se pv pa gv ga ov oa qv qa hv ha nv na yv ya cf cs) ∧ r = some (.int (-1))) ∨ ((¬ tn = 20 ∧ px_vb p (S.1 23) = true ∧ (nI 0 ≤ y ∧ y ≤ nI 999)) ∧ W' = (sW bv tv ta tb uv ua ub rv ra rb rt se pv pa gv ga ov oa (va_up qv 0 (nI (tn + 1))) (va_up (va_up qa 3 (upd (qa 3) tn p)) 4 (upd (qa 4) tn y)) hv ha nv na yv ya cf cs) ∧ r = some (.int (nI tn)))) := by
  by_cases h20 : tn = 20
  · exact cs_tellF d bv tv ta tb uv ua ub rv ra rb rt se pv pa gv ga ov oa qv qa hv ha nv na yv ya cf cs S lv a hX tn htn htn2 h20 p y hd
  · exact cs_tellS d bv tv ta tb uv ua ub rv ra rb rt se pv pa gv ga ov oa qv qa hv ha nv na yv ya cf cs S lv a hX tn htn htn2 h20 p y hd
