/-! THE CLASS: parseLaw -/
theorem prl_ret (X : PE ⊕ PT) : prl (bd X (fun s => .inr (s, []))) = X := by cases X <;> rfl
theorem bd_ret (X : PE ⊕ PT) (f : PT × List LBr → PE ⊕ (PT × List LBr)) : bd (bd X (fun s => .inr (s, []))) f = bd X (fun s => f (s, [])) := by cases X <;> rfl
theorem LQc.z0 {K : TKS} {z : Nat} {st rv : Nat → Int32} {X : PE ⊕ PT} (hz : z ≤ 404) (hP : PVc K X rv) (hb : ∀ s, X = .inr s → z ≤ s.1 + 2) : LQc K z st (bd X (fun s => .inr (s, []))) rv z st := by
  refine ⟨Nat.le_refl _, hz, by rw [prl_ret]; exact hP, fun q hq => ?_⟩
  obtain ⟨s, e, hq⟩ := bd_inrE hq
  obtain rfl := Sum.inr.inj hq
  exact ⟨fun br hb => (by cases hb), rfl, fun _ _ => rfl, fun i x hx => (by simp [stP] at hx), hb s e⟩
set_option maxHeartbeats 1000000 in
theorem cc_parseLaw (d : Nat) (rv : Nat → Int32) (ra : Nat → Nat → Int32) (rb : Nat → Nat → Int64) (tv : Nat → Int32) (ta : Nat → Nat → Int32) (tb : Nat → Nat → Int64) (bg : Nat → Int32) (K : TKS) (hT : CTk K ra rb) (z : Nat) (st : Nat → Int32) (hz : z ≤ 404) (hz4 : 4 ≤ z) (s : PT) (hP : PVc K (.inr s) rv) (hz2 : z ≤ s.1 + 4) (k : Nat) (hk : 24 ≤ k ∧ k ≤ 26) (hd : 22 ≤ d) : Con mX3_parseLaw d [.ref 0, .int (nI (ck k))] (dW rv ra rb (.ref 6) (vX tv ta tb z st bg)) (fun q W' => ∃ rv' z' st', W' = dW rv' ra rb (.ref 6) (vX tv ta tb z' st' (upd bg ((ck k) - 132) (nI z))) ∧ chg [1, 8, 9] rv rv' ∧ LWc K z st (bd (bd (bd (.inr s) (mstS K k)) (mstS K 5)) (fun s2 => lawT K 4 (s2, []))) rv' z' st' ∧ q = none) := by
  have hck : ck k = k + 108 := by
    rcases (show k = 24 ∨ k = 25 ∨ k = 26 by omega) with rfl | rfl | rfl <;> rfl
  refine Con.of (by decide) (Nat.le_of_ble_eq_true rfl) ?_
  refine XG.blk tX3_parseLaw_ok 0 2 (pc' := 2) (pl' := [some (.ref 0), some (.int (nI (ck k))), none, none]) (st' := [(.int (nI (ck k))), (.ref 0)]) (W1 := (dW rv ra rb (.ref 6) (vX tv ta tb z st bg))) (bs := []) rfl rfl rfl ?_
  refine XG.callV0 eX3_parseLaw_2 kl_X3_130 (cc_take (d - 1) rv ra rb (.ref 6) (vX tv ta tb z st bg) K hT (.inr s) hP k (by unfold vk; omega) (by omega)) (px_fitS (by omega)) rfl rfl rfl (Nat.le_of_ble_eq_true rfl) (fun r9 W9 hp9 hl9 => ?_)
  obtain ⟨rv1, rfl, hc1, hP1, rfl⟩ := hp9
  show XG _ _ _ _ _ _ [] (dW rv1 ra rb (.ref 6) (vX tv ta tb z st bg))
  refine XG.blk tX3_parseLaw_ok 3 2 (pc' := 8) (pl' := [some (.ref 0), some (.int (nI (ck k))), none, none]) (st' := [(.int (nI 61)), (.ref 0)]) (W1 := (dW rv1 ra rb (.ref 6) (vX tv ta tb z st bg))) (bs := []) rfl rfl rfl ?_
  refine XG.callV0 eX3_parseLaw_8 kl_X3_130 (cc_take (d - 1) rv1 ra rb (.ref 6) (vX tv ta tb z st bg) K hT (bd (.inr s) (mstS K k)) hP1 5 (by unfold vk; omega) (by omega)) (px_fitS (by omega)) rfl rfl rfl (Nat.le_of_ble_eq_true rfl) (fun r9 W9 hp9 hl9 => ?_)
  obtain ⟨rv2, rfl, hc2, hP2, rfl⟩ := hp9
  show XG _ _ _ _ _ _ [] (dW rv2 ra rb (.ref 6) (vX tv ta tb z st bg))
  have q1 : ((nI (ck k)) - (nI 132)) = (nI ((ck k) - 132)) := px_esub rfl rfl (by omega)
  refine XG.blk tX3_parseLaw_ok 6 6 (pc' := 23) (pl' := [some (.ref 0), some (.int (nI (ck k))), none, none]) (st' := [(.int ((nI (ck k)) - (nI 132))), (.ref 17)]) (W1 := (dW rv2 ra rb (.ref 6) (vX tv ta tb z st bg))) (bs := []) rfl rfl rfl ?_
  simp only [q1]
  refine XG.callV (ro := [17, 18, 19, 20]) (W1 := (gW (nI z) st bg (ta 22))) eX3_parseLaw_23 kl_X3_213 (cc_begin (d - 1) z st bg (ta 22) hz ((ck k) - 132) (by omega)) (px_fitS (by omega)) rfl ⟨rfl, by decide, by decide⟩ rfl rfl (Nat.le_of_ble_eq_true rfl) (fun r9 W9 hp9 hl9 => ?_)
  obtain ⟨rfl, rfl⟩ := hp9
  rw [pt_vg]
  show XG _ _ _ _ _ _ [] (dW rv2 ra rb (.ref 6) (vX tv ta tb z st (upd bg ((ck k) - 132) (nI z))))
  refine XG.blk tX3_parseLaw_ok 13 2 (pc' := 28) (pl' := [some (.ref 0), some (.int (nI (ck k))), some (.int (nI 0)), none]) (st' := []) (W1 := (dW rv2 ra rb (.ref 6) (vX tv ta tb z st (upd bg ((ck k) - 132) (nI z))))) (bs := []) rfl rfl rfl ?_
  refine px_for 5 (fun i => ∀ (rvw : Nat → Int32) (zw : Nat) (stw : Nat → Int32) (R : PE ⊕ (PT × List LBr)) (hcw : chg [1, 8, 9] rv rvw) (hL : LQc K z st R rvw zw stw) (hF : (i ≤ 4 → bd R (lawT K (4 - i)) = (bd (bd (bd (.inr s) (mstS K k)) (mstS K 5)) (fun s2 => lawT K 4 (s2, [])))) ∧ (i = 5 → ∃ e, R = .inl e ∧ (bd (bd (bd (.inr s) (mstS K k)) (mstS K 5)) (fun s2 => lawT K 4 (s2, []))) = .inl e)), XG mX3_parseLaw _ 0 0 28 [some (.ref 0), some (.int (nI (ck k))), some (.int (nI i)), none] [] (dW rvw ra rb (.ref 6) (vX tv ta tb zw stw (upd bg ((ck k) - 132) (nI z))))) ?_ ?_ 0 (Nat.zero_le _) rv2 z st (bd (bd (bd (.inr s) (mstS K k)) (mstS K 5)) (fun s => .inr (s, []))) (hc1.tr hc2) (LQc.z0 hz hP2 (fun s2 h2 => by obtain ⟨s1, e1, e2⟩ := bd_inrE h2; have e1 : mstS K k s = .inr s1 := e1; rw [(mstS_inr e2).2.2, (mstS_inr e1).2.2]; show z ≤ s.1 + 1 + 1 + 2; omega)) ⟨fun _ => bd_ret _ _, fun w => absurd w (by decide)⟩
  · intro rvw zw stw R hcw hL hF
    refine XG.blk tX3_parseLaw_ok 15 2 (pc' := 30) (pl' := [some (.ref 0), some (.int (nI (ck k))), some (.int (nI 5)), none]) (st' := [(.int (nI 4)), (.int (nI 5))]) (W1 := (dW rvw ra rb (.ref 6) (vX tv ta tb zw stw (upd bg ((ck k) - 132) (nI z))))) (bs := []) rfl rfl rfl ?_
    refine XG.br eX3_parseLaw_30 (P := (nI 4) < (nI 5)) (r := []) rfl (tgt := 136) (by decide) (fun h30 => ?_) (fun h30 => ?_)
    · skip
      have g30 : 4 < 5 := (nI_ltI (a := 4) (b := 5) (by omega) (by omega)).mp h30
      refine XG.blk tX3_parseLaw_ok 67 2 (pc' := 138) (pl' := [some (.ref 0), some (.int (nI (ck k))), some (.int (nI 5)), none]) (st' := [(.int (nI 0)), (.ref 0)]) (W1 := (dW rvw ra rb (.ref 6) (vX tv ta tb zw stw (upd bg ((ck k) - 132) (nI z))))) (bs := []) rfl rfl rfl ?_
      refine XG.callV0 eX3_parseLaw_138 kl_X3_221 ((cc_ex K 6 (d - 1) (by omega) (by omega)) rvw ra rb tv ta tb (upd bg ((ck k) - 132) (nI z)) hT (prl R) hL.2.2.1 0 zw stw hL.2.1 hL.bnd) (px_fitS (by omega)) rfl rfl rfl (Nat.le_of_ble_eq_true rfl) (fun r9 W9 hp9 hl9 => ?_)
      obtain ⟨rv3, z3, st3, rfl, hc3, hE3, rfl⟩ := hp9
      have ge3 : zw ≤ z3 := hE3.1
      have le3 : z3 ≤ 404 := hE3.2.1
      show XG _ _ _ _ _ _ [] (dW rv3 ra rb (.ref 6) (vX tv ta tb z3 st3 (upd bg ((ck k) - 132) (nI z))))
      refine XG.blk tX3_parseLaw_ok 70 5 (pc' := 151) (pl' := [some (.ref 0), some (.int (nI (ck k))), some (.int (nI 5)), none]) (st' := [(.int (nI 0)), (.int (nI 7)), (.ref 17)]) (W1 := (dW rv3 ra rb (.ref 6) (vX tv ta tb z3 st3 (upd bg ((ck k) - 132) (nI z))))) (bs := []) rfl rfl rfl ?_
      refine XG.callV (ro := [17, 18, 19, 20]) (W1 := (gW (nI z3) st3 (upd bg ((ck k) - 132) (nI z)) (ta 22))) eX3_parseLaw_151 kl_X3_227 (cc_lawAdd (d - 1) z3 st3 (upd bg ((ck k) - 132) (nI z)) (ta 22) hE3.2.1 (nI 7) (nI 0)) (px_fitS (by omega)) rfl ⟨rfl, by decide, by decide⟩ rfl rfl (Nat.le_of_ble_eq_true rfl) (fun r9 W9 hp9 hl9 => ?_)
      obtain ⟨rfl, rfl⟩ := hp9
      rw [pt_vg]
      show XG _ _ _ _ _ _ [] (dW rv3 ra rb (.ref 6) (vX tv ta tb (adZ z3) (adS st3 z3 (stX (nI 7) (nI 0))) (upd bg ((ck k) - 132) (nI z))))
      refine XS.vret eX3_parseLaw_154 rfl ?_
      obtain ⟨e, rfl, hTe⟩ := hF.2 rfl
      refine ⟨_, _, _, rfl, hcw.tr hc3, ?_, rfl⟩
      rw [hTe]
      exact LWc.fin hL hE3
    · exfalso
      have g30 : ¬ 4 < 5 := (fun z_9 => h30 ((nI_ltI (a := 4) (b := 5) (by omega) (by omega)).mpr z_9))
      omega
  · intro i hi ihi rvw zw stw R hcw hL hF
    refine XG.blk tX3_parseLaw_ok 15 2 (pc' := 30) (pl' := [some (.ref 0), some (.int (nI (ck k))), some (.int (nI i)), none]) (st' := [(.int (nI 4)), (.int (nI i))]) (W1 := (dW rvw ra rb (.ref 6) (vX tv ta tb zw stw (upd bg ((ck k) - 132) (nI z))))) (bs := []) rfl rfl rfl ?_
    refine XG.br eX3_parseLaw_30 (P := (nI 4) < (nI i)) (r := []) rfl (tgt := 136) (by decide) (fun h30 => ?_) (fun h30 => ?_)
    · exfalso
      have g30 : 4 < i := (nI_ltI (a := 4) (b := i) (by omega) (by omega)).mp h30
      omega
    · skip
      have g30 : ¬ 4 < i := (fun z_9 => h30 ((nI_ltI (a := 4) (b := i) (by omega) (by omega)).mpr z_9))
      refine XG.blk tX3_parseLaw_ok 18 2 (pc' := 37) (pl' := [some (.ref 0), some (.int (nI (ck k))), some (.int (nI i)), none]) (st' := [(.int (nI 138)), (.ref 0)]) (W1 := (dW rvw ra rb (.ref 6) (vX tv ta tb zw stw (upd bg ((ck k) - 132) (nI z))))) (bs := []) rfl rfl rfl ?_
      refine XG.callV0 eX3_parseLaw_37 kl_X3_218 (cc_sees (d - 1) rvw ra rb (.ref 6) (vX tv ta tb zw stw (upd bg ((ck k) - 132) (nI z))) K hT (prl R) hL.2.2.1 30 (by unfold vk; omega)) (px_fitS (by omega)) rfl rfl rfl (Nat.le_of_ble_eq_true rfl) (fun r9 W9 hp9 hl9 => ?_)
      obtain ⟨rfl, rfl⟩ := hp9
      refine XG.br eX3_parseLaw_40 (P := (seeB K (prl R) 30) = 0) (r := []) rfl (tgt := 136) (by decide) (fun h40 => ?_) (fun h40 => ?_)
      · skip
        refine XG.blk tX3_parseLaw_ok 67 2 (pc' := 138) (pl' := [some (.ref 0), some (.int (nI (ck k))), some (.int (nI i)), none]) (st' := [(.int (nI 0)), (.ref 0)]) (W1 := (dW rvw ra rb (.ref 6) (vX tv ta tb zw stw (upd bg ((ck k) - 132) (nI z))))) (bs := []) rfl rfl rfl ?_
        refine XG.callV0 eX3_parseLaw_138 kl_X3_221 ((cc_ex K 6 (d - 1) (by omega) (by omega)) rvw ra rb tv ta tb (upd bg ((ck k) - 132) (nI z)) hT (prl R) hL.2.2.1 0 zw stw hL.2.1 hL.bnd) (px_fitS (by omega)) rfl rfl rfl (Nat.le_of_ble_eq_true rfl) (fun r9 W9 hp9 hl9 => ?_)
        obtain ⟨rv3, z3, st3, rfl, hc3, hE3, rfl⟩ := hp9
        have ge3 : zw ≤ z3 := hE3.1
        have le3 : z3 ≤ 404 := hE3.2.1
        show XG _ _ _ _ _ _ [] (dW rv3 ra rb (.ref 6) (vX tv ta tb z3 st3 (upd bg ((ck k) - 132) (nI z))))
        refine XG.blk tX3_parseLaw_ok 70 5 (pc' := 151) (pl' := [some (.ref 0), some (.int (nI (ck k))), some (.int (nI i)), none]) (st' := [(.int (nI 0)), (.int (nI 7)), (.ref 17)]) (W1 := (dW rv3 ra rb (.ref 6) (vX tv ta tb z3 st3 (upd bg ((ck k) - 132) (nI z))))) (bs := []) rfl rfl rfl ?_
        refine XG.callV (ro := [17, 18, 19, 20]) (W1 := (gW (nI z3) st3 (upd bg ((ck k) - 132) (nI z)) (ta 22))) eX3_parseLaw_151 kl_X3_227 (cc_lawAdd (d - 1) z3 st3 (upd bg ((ck k) - 132) (nI z)) (ta 22) hE3.2.1 (nI 7) (nI 0)) (px_fitS (by omega)) rfl ⟨rfl, by decide, by decide⟩ rfl rfl (Nat.le_of_ble_eq_true rfl) (fun r9 W9 hp9 hl9 => ?_)
        obtain ⟨rfl, rfl⟩ := hp9
        rw [pt_vg]
        show XG _ _ _ _ _ _ [] (dW rv3 ra rb (.ref 6) (vX tv ta tb (adZ z3) (adS st3 z3 (stX (nI 7) (nI 0))) (upd bg ((ck k) - 132) (nI z))))
        refine XS.vret eX3_parseLaw_154 rfl ?_
        refine ⟨_, _, _, rfl, hcw.tr hc3, ?_, rfl⟩
        rw [← hF.1 (by omega), law_end (seel_z h40)]
        exact LWc.fin hL hE3
      · skip
        obtain ⟨q, rfl, hkq⟩ := seel_q h40
        have hPq : PVc K (.inr q.1) rvw := hL.2.2.1
        have hq4 := hPq.1
        have hl0 : z ≤ zw := hL.1
        have hl1 : zw ≤ q.1.1 + 2 := (hL.2.2.2 q rfl).2.2.2.2
        refine XG.blk tX3_parseLaw_ok 22 2 (pc' := 45) (pl' := [some (.ref 0), some (.int (nI (ck k))), some (.int (nI i)), none]) (st' := [(.int (nI 4)), (.int (nI i))]) (W1 := (dW rvw ra rb (.ref 6) (vX tv ta tb zw stw (upd bg ((ck k) - 132) (nI z))))) (bs := []) rfl rfl rfl ?_
        refine XG.br eX3_parseLaw_45 (P := ¬ (nI i) = (nI 4)) (r := []) rfl (tgt := 53) (by decide) (fun h45 => ?_) (fun h45 => ?_)
        · skip
          have g45 : ¬ i = 4 := (fun z_9 => h45 ((nI_eq (a := i) (b := 4) (by omega) (by omega)).mpr z_9))
          refine XG.blk tX3_parseLaw_ok 28 2 (pc' := 57) (pl' := [some (.ref 0), some (.int (nI (ck k))), some (.int (nI i)), none]) (st' := [(.int (nI 138)), (.ref 0)]) (W1 := (dW rvw ra rb (.ref 6) (vX tv ta tb zw stw (upd bg ((ck k) - 132) (nI z))))) (bs := []) rfl rfl rfl ?_
          refine XG.callV0 eX3_parseLaw_57 kl_X3_130 (cc_take (d - 1) rvw ra rb (.ref 6) (vX tv ta tb zw stw (upd bg ((ck k) - 132) (nI z))) K hT (.inr q.1) hPq 30 (by unfold vk; omega) (by omega)) (px_fitS (by omega)) rfl rfl rfl (Nat.le_of_ble_eq_true rfl) (fun r9 W9 hp9 hl9 => ?_)
          obtain ⟨rv3, rfl, hc3, hP3, rfl⟩ := hp9
          show XG _ _ _ _ _ _ [] (dW rv3 ra rb (.ref 6) (vX tv ta tb zw stw (upd bg ((ck k) - 132) (nI z))))
          refine XG.blk tX3_parseLaw_ok 31 2 (pc' := 62) (pl' := [some (.ref 0), some (.int (nI (ck k))), some (.int (nI i)), none]) (st' := [(.int (nI 0)), (.ref 0)]) (W1 := (dW rv3 ra rb (.ref 6) (vX tv ta tb zw stw (upd bg ((ck k) - 132) (nI z))))) (bs := []) rfl rfl rfl ?_
          refine XG.callV0 eX3_parseLaw_62 kl_X3_221 ((cc_ex K 6 (d - 1) (by omega) (by omega)) rv3 ra rb tv ta tb (upd bg ((ck k) - 132) (nI z)) hT (bd (.inr q.1) (mstS K 30)) hP3 1 zw stw hL.2.1 (fun s1 h1 => by rw [bd_mst hkq] at h1; rw [adv_s h1]; show zw + 1 ≤ q.1.1 + 1 + 2; omega)) (px_fitS (by omega)) rfl rfl rfl (Nat.le_of_ble_eq_true rfl) (fun r9 W9 hp9 hl9 => ?_)
          obtain ⟨rv4, z4, st4, rfl, hc4, hE4, rfl⟩ := hp9
          have ge4 : zw ≤ z4 := hE4.1
          have le4 : z4 ≤ 404 := hE4.2.1
          show XG _ _ _ _ _ _ [] (dW rv4 ra rb (.ref 6) (vX tv ta tb z4 st4 (upd bg ((ck k) - 132) (nI z))))
          refine XG.blk tX3_parseLaw_ok 34 2 (pc' := 68) (pl' := [some (.ref 0), some (.int (nI (ck k))), some (.int (nI i)), none]) (st' := [(.int (nI 60)), (.ref 0)]) (W1 := (dW rv4 ra rb (.ref 6) (vX tv ta tb z4 st4 (upd bg ((ck k) - 132) (nI z))))) (bs := []) rfl rfl rfl ?_
          refine XG.callV0 eX3_parseLaw_68 kl_X3_130 (cc_take (d - 1) rv4 ra rb (.ref 6) (vX tv ta tb z4 st4 (upd bg ((ck k) - 132) (nI z))) K hT (prj (bd (bd (.inr q.1) (mstS K 30)) (lfE (exS K 6)))) hE4.2.2.1 13 (by unfold vk; omega) (by omega)) (px_fitS (by omega)) rfl rfl rfl (Nat.le_of_ble_eq_true rfl) (fun r9 W9 hp9 hl9 => ?_)
          obtain ⟨rv5, rfl, hc5, hP5, rfl⟩ := hp9
          show XG _ _ _ _ _ _ [] (dW rv5 ra rb (.ref 6) (vX tv ta tb z4 st4 (upd bg ((ck k) - 132) (nI z))))
          refine XG.blk tX3_parseLaw_ok 37 2 (pc' := 73) (pl' := [some (.ref 0), some (.int (nI (ck k))), some (.int (nI i)), none]) (st' := [(.int (nI 0)), (.ref 0)]) (W1 := (dW rv5 ra rb (.ref 6) (vX tv ta tb z4 st4 (upd bg ((ck k) - 132) (nI z))))) (bs := []) rfl rfl rfl ?_
          refine XG.callV0 eX3_parseLaw_73 kl_X3_221 ((cc_ex K 6 (d - 1) (by omega) (by omega)) rv5 ra rb tv ta tb (upd bg ((ck k) - 132) (nI z)) hT (bd (prj (bd (bd (.inr q.1) (mstS K 30)) (lfE (exS K 6)))) (mstS K 13)) hP5 2 z4 st4 hE4.2.1 hE4.nx) (px_fitS (by omega)) rfl rfl rfl (Nat.le_of_ble_eq_true rfl) (fun r9 W9 hp9 hl9 => ?_)
          obtain ⟨rv6, z6, st6, rfl, hc6, hE6, rfl⟩ := hp9
          have ge6 : z4 ≤ z6 := hE6.1
          have le6 : z6 ≤ 404 := hE6.2.1
          show XG _ _ _ _ _ _ [] (dW rv6 ra rb (.ref 6) (vX tv ta tb z6 st6 (upd bg ((ck k) - 132) (nI z))))
          refine XG.blk tX3_parseLaw_ok 40 3 (pc' := 83) (pl' := [some (.ref 0), some (.int (nI (ck k))), some (.int (nI i)), none]) (st' := [(.ref 17)]) (W1 := (dW rv6 ra rb (.ref 6) (vX tv ta tb z6 st6 (upd bg ((ck k) - 132) (nI z))))) (bs := []) rfl rfl rfl ?_
          refine XG.callV (ro := [17, 18, 19, 20]) (W1 := (gW (nI z6) st6 (upd bg ((ck k) - 132) (nI z)) (ta 22))) eX3_parseLaw_83 kl_X3_224 (cc_addTest (d - 1) z6 st6 (upd bg ((ck k) - 132) (nI z)) (ta 22) hE6.2.1 (by omega) (by omega)) (px_fitS (by omega)) rfl ⟨rfl, by decide, by decide⟩ rfl rfl (Nat.le_of_ble_eq_true rfl) (fun r9 W9 hp9 hl9 => ?_)
          obtain ⟨rfl, rfl⟩ := hp9
          rw [pt_vg]
          show XG _ _ _ _ _ _ [(.int (nI (adZ z6 - 1)))] (dW rv6 ra rb (.ref 6) (vX tv ta tb (adZ z6) (adS st6 z6 (stX (nI 6) (nI 0))) (upd bg ((ck k) - 132) (nI z))))
          refine XG.blk tX3_parseLaw_ok 44 3 (pc' := 91) (pl' := [some (.ref 0), some (.int (nI (ck k))), some (.int (nI i)), some (.int (nI (adZ z6 - 1)))]) (st' := [(.int (nI 139)), (.ref 0)]) (W1 := (dW rv6 ra rb (.ref 6) (vX tv ta tb (adZ z6) (adS st6 z6 (stX (nI 6) (nI 0))) (upd bg ((ck k) - 132) (nI z))))) (bs := []) rfl rfl rfl ?_
          refine XG.callV0 eX3_parseLaw_91 kl_X3_130 (cc_take (d - 1) rv6 ra rb (.ref 6) (vX tv ta tb (adZ z6) (adS st6 z6 (stX (nI 6) (nI 0))) (upd bg ((ck k) - 132) (nI z))) K hT (prj (bd (bd (prj (bd (bd (.inr q.1) (mstS K 30)) (lfE (exS K 6)))) (mstS K 13)) (lfE (exS K 6)))) hE6.2.2.1 31 (by unfold vk; omega) (by omega)) (px_fitS (by omega)) rfl rfl rfl (Nat.le_of_ble_eq_true rfl) (fun r9 W9 hp9 hl9 => ?_)
          obtain ⟨rv7, rfl, hc7, hP7, rfl⟩ := hp9
          show XG _ _ _ _ _ _ [] (dW rv7 ra rb (.ref 6) (vX tv ta tb (adZ z6) (adS st6 z6 (stX (nI 6) (nI 0))) (upd bg ((ck k) - 132) (nI z))))
          refine XG.blk tX3_parseLaw_ok 48 2 (pc' := 96) (pl' := [some (.ref 0), some (.int (nI (ck k))), some (.int (nI i)), some (.int (nI (adZ z6 - 1)))]) (st' := [(.int (nI 0)), (.ref 0)]) (W1 := (dW rv7 ra rb (.ref 6) (vX tv ta tb (adZ z6) (adS st6 z6 (stX (nI 6) (nI 0))) (upd bg ((ck k) - 132) (nI z))))) (bs := []) rfl rfl rfl ?_
          refine XG.callV0 eX3_parseLaw_96 kl_X3_221 ((cc_ex K 6 (d - 1) (by omega) (by omega)) rv7 ra rb tv ta tb (upd bg ((ck k) - 132) (nI z)) hT (bd (prj (bd (bd (prj (bd (bd (.inr q.1) (mstS K 30)) (lfE (exS K 6)))) (mstS K 13)) (lfE (exS K 6)))) (mstS K 31)) hP7 2 (adZ z6) (adS st6 z6 (stX (nI 6) (nI 0))) (adZ_le hE6.2.1) (fun s1 h1 => by have := hE6.nx s1 h1; have := adZ_g (z := z6); omega)) (px_fitS (by omega)) rfl rfl rfl (Nat.le_of_ble_eq_true rfl) (fun r9 W9 hp9 hl9 => ?_)
          obtain ⟨rv8, z8, st8, rfl, hc8, hE8, rfl⟩ := hp9
          have ge8 : (adZ z6) ≤ z8 := hE8.1
          have le8 : z8 ≤ 404 := hE8.2.1
          show XG _ _ _ _ _ _ [] (dW rv8 ra rb (.ref 6) (vX tv ta tb z8 st8 (upd bg ((ck k) - 132) (nI z))))
          refine XG.blk tX3_parseLaw_ok 51 5 (pc' := 109) (pl' := [some (.ref 0), some (.int (nI (ck k))), some (.int (nI i)), some (.int (nI (adZ z6 - 1)))]) (st' := [(.int (nI 0)), (.int (nI 7)), (.ref 17)]) (W1 := (dW rv8 ra rb (.ref 6) (vX tv ta tb z8 st8 (upd bg ((ck k) - 132) (nI z))))) (bs := []) rfl rfl rfl ?_
          refine XG.callV (ro := [17, 18, 19, 20]) (W1 := (gW (nI z8) st8 (upd bg ((ck k) - 132) (nI z)) (ta 22))) eX3_parseLaw_109 kl_X3_227 (cc_lawAdd (d - 1) z8 st8 (upd bg ((ck k) - 132) (nI z)) (ta 22) hE8.2.1 (nI 7) (nI 0)) (px_fitS (by omega)) rfl ⟨rfl, by decide, by decide⟩ rfl rfl (Nat.le_of_ble_eq_true rfl) (fun r9 W9 hp9 hl9 => ?_)
          obtain ⟨rfl, rfl⟩ := hp9
          rw [pt_vg]
          show XG _ _ _ _ _ _ [] (dW rv8 ra rb (.ref 6) (vX tv ta tb (adZ z8) (adS st8 z8 (stX (nI 7) (nI 0))) (upd bg ((ck k) - 132) (nI z))))
          refine XG.blk tX3_parseLaw_ok 57 2 (pc' := 116) (pl' := [some (.ref 0), some (.int (nI (ck k))), some (.int (nI i)), some (.int (nI (adZ z6 - 1)))]) (st' := [(.int (nI 140)), (.ref 0)]) (W1 := (dW rv8 ra rb (.ref 6) (vX tv ta tb (adZ z8) (adS st8 z8 (stX (nI 7) (nI 0))) (upd bg ((ck k) - 132) (nI z))))) (bs := []) rfl rfl rfl ?_
          refine XG.callV0 eX3_parseLaw_116 kl_X3_130 (cc_take (d - 1) rv8 ra rb (.ref 6) (vX tv ta tb (adZ z8) (adS st8 z8 (stX (nI 7) (nI 0))) (upd bg ((ck k) - 132) (nI z))) K hT (prj (bd (bd (prj (bd (bd (prj (bd (bd (.inr q.1) (mstS K 30)) (lfE (exS K 6)))) (mstS K 13)) (lfE (exS K 6)))) (mstS K 31)) (lfE (exS K 6)))) hE8.2.2.1 32 (by unfold vk; omega) (by omega)) (px_fitS (by omega)) rfl rfl rfl (Nat.le_of_ble_eq_true rfl) (fun r9 W9 hp9 hl9 => ?_)
          obtain ⟨rv9, rfl, hc9, hP9, rfl⟩ := hp9
          show XG _ _ _ _ _ _ [] (dW rv9 ra rb (.ref 6) (vX tv ta tb (adZ z8) (adS st8 z8 (stX (nI 7) (nI 0))) (upd bg ((ck k) - 132) (nI z))))
          refine XG.blk tX3_parseLaw_ok 60 4 (pc' := 127) (pl' := [some (.ref 0), some (.int (nI (ck k))), some (.int (nI i)), some (.int (nI (adZ z6 - 1)))]) (st' := [(.int (nI (adZ z6 - 1))), (.ref 17)]) (W1 := (dW rv9 ra rb (.ref 6) (vX tv ta tb (adZ z8) (adS st8 z8 (stX (nI 7) (nI 0))) (upd bg ((ck k) - 132) (nI z))))) (bs := []) rfl rfl rfl ?_
          refine XG.callV (ro := [17, 18, 19, 20]) (W1 := (gW (nI (adZ z8)) (adS st8 z8 (stX (nI 7) (nI 0))) (upd bg ((ck k) - 132) (nI z)) (ta 22))) eX3_parseLaw_127 kl_X3_230 (cc_aim (d - 1) (adZ z8) (adS st8 z8 (stX (nI 7) (nI 0))) (upd bg ((ck k) - 132) (nI z)) (ta 22) (adZ_le hE8.2.1) (adZ z6 - 1) (by have := adZ_le (z := z6) (by omega); omega)) (px_fitS (by omega)) rfl ⟨rfl, by decide, by decide⟩ rfl rfl (Nat.le_of_ble_eq_true rfl) (fun r9 W9 hp9 hl9 => ?_)
          obtain ⟨rfl, rfl⟩ := hp9
          rw [pt_vg]
          show XG _ _ _ _ _ _ [] (dW rv9 ra rb (.ref 6) (vX tv ta tb (adZ z8) (upd (adS st8 z8 (stX (nI 7) (nI 0))) (adZ z6 - 1) (stX (nI 6) (nI (adZ z8)))) (upd bg ((ck k) - 132) (nI z))))
          have q2 : ((nI i) + (nI 1)) = (nI (i + 1)) := px_eadd rfl rfl
          refine XG.blk tX3_parseLaw_ok 65 1 (pc' := 133) (pl' := [some (.ref 0), some (.int (nI (ck k))), some (.int ((nI i) + (nI 1))), some (.int (nI (adZ z6 - 1)))]) (st' := []) (W1 := (dW rv9 ra rb (.ref 6) (vX tv ta tb (adZ z8) (upd (adS st8 z8 (stX (nI 7) (nI 0))) (adZ z6 - 1) (stX (nI 6) (nI (adZ z8)))) (upd bg ((ck k) - 132) (nI z))))) (bs := []) rfl rfl rfl ?_
          simp only [q2]
          refine XG.goto eX3_parseLaw_133 (tgt := 28) (by decide) ?_
          refine XG.weak (pl' := [some (.ref 0), some (.int (nI (ck k))), some (.int (nI (i + 1))), none]) ⟨rfl, rfl, rfl, trivial⟩ ?_
          exact ihi _ _ _ (bd (.inr q) (brL K)) (hcw.tr (hc3.tr (hc4.tr (hc5.tr (hc6.tr (hc7.tr (hc8.tr hc9))))))) (hL.br hE4 hE6 hE8 hP9) ⟨fun _ => (by rw [← hF.1 (by omega), show 4 - i = (4 - (i + 1)) + 1 by omega]; exact (law_step hkq).symm), fun w => absurd (show i = 4 by omega) g45⟩
        · skip
          have h45 := Decidable.not_not.mp h45
          have g45 : i = 4 := (nI_eq (a := i) (b := 4) (by omega) (by omega)).mp h45
          refine XG.blk tX3_parseLaw_ok 25 2 (pc' := 50) (pl' := [some (.ref 0), some (.int (nI (ck k))), some (.int (nI i)), none]) (st' := [(.int (nI 2)), (.ref 0)]) (W1 := (dW rvw ra rb (.ref 6) (vX tv ta tb zw stw (upd bg ((ck k) - 132) (nI z))))) (bs := []) rfl rfl rfl ?_
          refine XG.callV0 eX3_parseLaw_50 kl_X3_149 (cc_fail (d - 1) rvw ra rb (.ref 6) (vX tv ta tb zw stw (upd bg ((ck k) - 132) (nI z))) K hT (.inr q.1) hPq 2 (by decide)) (px_fitS (by omega)) rfl rfl rfl (Nat.le_of_ble_eq_true rfl) (fun r9 W9 hp9 hl9 => ?_)
          obtain ⟨rv3, rfl, hc3, hP3, rfl⟩ := hp9
          show XG _ _ _ _ _ _ [] (dW rv3 ra rb (.ref 6) (vX tv ta tb zw stw (upd bg ((ck k) - 132) (nI z))))
          refine XG.blk tX3_parseLaw_ok 28 2 (pc' := 57) (pl' := [some (.ref 0), some (.int (nI (ck k))), some (.int (nI i)), none]) (st' := [(.int (nI 138)), (.ref 0)]) (W1 := (dW rv3 ra rb (.ref 6) (vX tv ta tb zw stw (upd bg ((ck k) - 132) (nI z))))) (bs := []) rfl rfl rfl ?_
          refine XG.callV0 eX3_parseLaw_57 kl_X3_130 (cc_take (d - 1) rv3 ra rb (.ref 6) (vX tv ta tb zw stw (upd bg ((ck k) - 132) (nI z))) K hT (bd (.inr q.1) (fun s => .inl (2, s.1))) hP3 30 (by unfold vk; omega) (by omega)) (px_fitS (by omega)) rfl rfl rfl (Nat.le_of_ble_eq_true rfl) (fun r9 W9 hp9 hl9 => ?_)
          obtain ⟨rv4, rfl, hc4, hP4, rfl⟩ := hp9
          show XG _ _ _ _ _ _ [] (dW rv4 ra rb (.ref 6) (vX tv ta tb zw stw (upd bg ((ck k) - 132) (nI z))))
          refine XG.blk tX3_parseLaw_ok 31 2 (pc' := 62) (pl' := [some (.ref 0), some (.int (nI (ck k))), some (.int (nI i)), none]) (st' := [(.int (nI 0)), (.ref 0)]) (W1 := (dW rv4 ra rb (.ref 6) (vX tv ta tb zw stw (upd bg ((ck k) - 132) (nI z))))) (bs := []) rfl rfl rfl ?_
          refine XG.callV0 eX3_parseLaw_62 kl_X3_221 ((cc_ex K 6 (d - 1) (by omega) (by omega)) rv4 ra rb tv ta tb (upd bg ((ck k) - 132) (nI z)) hT (bd (bd (.inr q.1) (fun s => .inl (2, s.1))) (mstS K 30)) hP4 0 zw stw hL.2.1 (fun s1 h1 => by have h1 : (Sum.inl (2, q.1.1) : PE ⊕ PT) = .inr s1 := h1; cases h1)) (px_fitS (by omega)) rfl rfl rfl (Nat.le_of_ble_eq_true rfl) (fun r9 W9 hp9 hl9 => ?_)
          obtain ⟨rv5, z5, st5, rfl, hc5, hE5, rfl⟩ := hp9
          have ge5 : zw ≤ z5 := hE5.1
          have le5 : z5 ≤ 404 := hE5.2.1
          show XG _ _ _ _ _ _ [] (dW rv5 ra rb (.ref 6) (vX tv ta tb z5 st5 (upd bg ((ck k) - 132) (nI z))))
          refine XG.blk tX3_parseLaw_ok 34 2 (pc' := 68) (pl' := [some (.ref 0), some (.int (nI (ck k))), some (.int (nI i)), none]) (st' := [(.int (nI 60)), (.ref 0)]) (W1 := (dW rv5 ra rb (.ref 6) (vX tv ta tb z5 st5 (upd bg ((ck k) - 132) (nI z))))) (bs := []) rfl rfl rfl ?_
          refine XG.callV0 eX3_parseLaw_68 kl_X3_130 (cc_take (d - 1) rv5 ra rb (.ref 6) (vX tv ta tb z5 st5 (upd bg ((ck k) - 132) (nI z))) K hT (prj (bd (bd (bd (.inr q.1) (fun s => .inl (2, s.1))) (mstS K 30)) (lfE (exS K 6)))) hE5.2.2.1 13 (by unfold vk; omega) (by omega)) (px_fitS (by omega)) rfl rfl rfl (Nat.le_of_ble_eq_true rfl) (fun r9 W9 hp9 hl9 => ?_)
          obtain ⟨rv6, rfl, hc6, hP6, rfl⟩ := hp9
          show XG _ _ _ _ _ _ [] (dW rv6 ra rb (.ref 6) (vX tv ta tb z5 st5 (upd bg ((ck k) - 132) (nI z))))
          refine XG.blk tX3_parseLaw_ok 37 2 (pc' := 73) (pl' := [some (.ref 0), some (.int (nI (ck k))), some (.int (nI i)), none]) (st' := [(.int (nI 0)), (.ref 0)]) (W1 := (dW rv6 ra rb (.ref 6) (vX tv ta tb z5 st5 (upd bg ((ck k) - 132) (nI z))))) (bs := []) rfl rfl rfl ?_
          refine XG.callV0 eX3_parseLaw_73 kl_X3_221 ((cc_ex K 6 (d - 1) (by omega) (by omega)) rv6 ra rb tv ta tb (upd bg ((ck k) - 132) (nI z)) hT (bd (prj (bd (bd (bd (.inr q.1) (fun s => .inl (2, s.1))) (mstS K 30)) (lfE (exS K 6)))) (mstS K 13)) hP6 0 z5 st5 hE5.2.1 (fun s1 h1 => by have h1 : (Sum.inl (2, q.1.1) : PE ⊕ PT) = .inr s1 := h1; cases h1)) (px_fitS (by omega)) rfl rfl rfl (Nat.le_of_ble_eq_true rfl) (fun r9 W9 hp9 hl9 => ?_)
          obtain ⟨rv7, z7, st7, rfl, hc7, hE7, rfl⟩ := hp9
          have ge7 : z5 ≤ z7 := hE7.1
          have le7 : z7 ≤ 404 := hE7.2.1
          show XG _ _ _ _ _ _ [] (dW rv7 ra rb (.ref 6) (vX tv ta tb z7 st7 (upd bg ((ck k) - 132) (nI z))))
          refine XG.blk tX3_parseLaw_ok 40 3 (pc' := 83) (pl' := [some (.ref 0), some (.int (nI (ck k))), some (.int (nI i)), none]) (st' := [(.ref 17)]) (W1 := (dW rv7 ra rb (.ref 6) (vX tv ta tb z7 st7 (upd bg ((ck k) - 132) (nI z))))) (bs := []) rfl rfl rfl ?_
          refine XG.callV (ro := [17, 18, 19, 20]) (W1 := (gW (nI z7) st7 (upd bg ((ck k) - 132) (nI z)) (ta 22))) eX3_parseLaw_83 kl_X3_224 (cc_addTest (d - 1) z7 st7 (upd bg ((ck k) - 132) (nI z)) (ta 22) hE7.2.1 (by omega) (by omega)) (px_fitS (by omega)) rfl ⟨rfl, by decide, by decide⟩ rfl rfl (Nat.le_of_ble_eq_true rfl) (fun r9 W9 hp9 hl9 => ?_)
          obtain ⟨rfl, rfl⟩ := hp9
          rw [pt_vg]
          show XG _ _ _ _ _ _ [(.int (nI (adZ z7 - 1)))] (dW rv7 ra rb (.ref 6) (vX tv ta tb (adZ z7) (adS st7 z7 (stX (nI 6) (nI 0))) (upd bg ((ck k) - 132) (nI z))))
          refine XG.blk tX3_parseLaw_ok 44 3 (pc' := 91) (pl' := [some (.ref 0), some (.int (nI (ck k))), some (.int (nI i)), some (.int (nI (adZ z7 - 1)))]) (st' := [(.int (nI 139)), (.ref 0)]) (W1 := (dW rv7 ra rb (.ref 6) (vX tv ta tb (adZ z7) (adS st7 z7 (stX (nI 6) (nI 0))) (upd bg ((ck k) - 132) (nI z))))) (bs := []) rfl rfl rfl ?_
          refine XG.callV0 eX3_parseLaw_91 kl_X3_130 (cc_take (d - 1) rv7 ra rb (.ref 6) (vX tv ta tb (adZ z7) (adS st7 z7 (stX (nI 6) (nI 0))) (upd bg ((ck k) - 132) (nI z))) K hT (prj (bd (bd (prj (bd (bd (bd (.inr q.1) (fun s => .inl (2, s.1))) (mstS K 30)) (lfE (exS K 6)))) (mstS K 13)) (lfE (exS K 6)))) hE7.2.2.1 31 (by unfold vk; omega) (by omega)) (px_fitS (by omega)) rfl rfl rfl (Nat.le_of_ble_eq_true rfl) (fun r9 W9 hp9 hl9 => ?_)
          obtain ⟨rv8, rfl, hc8, hP8, rfl⟩ := hp9
          show XG _ _ _ _ _ _ [] (dW rv8 ra rb (.ref 6) (vX tv ta tb (adZ z7) (adS st7 z7 (stX (nI 6) (nI 0))) (upd bg ((ck k) - 132) (nI z))))
          refine XG.blk tX3_parseLaw_ok 48 2 (pc' := 96) (pl' := [some (.ref 0), some (.int (nI (ck k))), some (.int (nI i)), some (.int (nI (adZ z7 - 1)))]) (st' := [(.int (nI 0)), (.ref 0)]) (W1 := (dW rv8 ra rb (.ref 6) (vX tv ta tb (adZ z7) (adS st7 z7 (stX (nI 6) (nI 0))) (upd bg ((ck k) - 132) (nI z))))) (bs := []) rfl rfl rfl ?_
          refine XG.callV0 eX3_parseLaw_96 kl_X3_221 ((cc_ex K 6 (d - 1) (by omega) (by omega)) rv8 ra rb tv ta tb (upd bg ((ck k) - 132) (nI z)) hT (bd (prj (bd (bd (prj (bd (bd (bd (.inr q.1) (fun s => .inl (2, s.1))) (mstS K 30)) (lfE (exS K 6)))) (mstS K 13)) (lfE (exS K 6)))) (mstS K 31)) hP8 0 (adZ z7) (adS st7 z7 (stX (nI 6) (nI 0))) (adZ_le hE7.2.1) (fun s1 h1 => by have h1 : (Sum.inl (2, q.1.1) : PE ⊕ PT) = .inr s1 := h1; cases h1)) (px_fitS (by omega)) rfl rfl rfl (Nat.le_of_ble_eq_true rfl) (fun r9 W9 hp9 hl9 => ?_)
          obtain ⟨rv9, z9, st9, rfl, hc9, hE9, rfl⟩ := hp9
          have ge9 : (adZ z7) ≤ z9 := hE9.1
          have le9 : z9 ≤ 404 := hE9.2.1
          show XG _ _ _ _ _ _ [] (dW rv9 ra rb (.ref 6) (vX tv ta tb z9 st9 (upd bg ((ck k) - 132) (nI z))))
          refine XG.blk tX3_parseLaw_ok 51 5 (pc' := 109) (pl' := [some (.ref 0), some (.int (nI (ck k))), some (.int (nI i)), some (.int (nI (adZ z7 - 1)))]) (st' := [(.int (nI 0)), (.int (nI 7)), (.ref 17)]) (W1 := (dW rv9 ra rb (.ref 6) (vX tv ta tb z9 st9 (upd bg ((ck k) - 132) (nI z))))) (bs := []) rfl rfl rfl ?_
          refine XG.callV (ro := [17, 18, 19, 20]) (W1 := (gW (nI z9) st9 (upd bg ((ck k) - 132) (nI z)) (ta 22))) eX3_parseLaw_109 kl_X3_227 (cc_lawAdd (d - 1) z9 st9 (upd bg ((ck k) - 132) (nI z)) (ta 22) hE9.2.1 (nI 7) (nI 0)) (px_fitS (by omega)) rfl ⟨rfl, by decide, by decide⟩ rfl rfl (Nat.le_of_ble_eq_true rfl) (fun r9 W9 hp9 hl9 => ?_)
          obtain ⟨rfl, rfl⟩ := hp9
          rw [pt_vg]
          show XG _ _ _ _ _ _ [] (dW rv9 ra rb (.ref 6) (vX tv ta tb (adZ z9) (adS st9 z9 (stX (nI 7) (nI 0))) (upd bg ((ck k) - 132) (nI z))))
          refine XG.blk tX3_parseLaw_ok 57 2 (pc' := 116) (pl' := [some (.ref 0), some (.int (nI (ck k))), some (.int (nI i)), some (.int (nI (adZ z7 - 1)))]) (st' := [(.int (nI 140)), (.ref 0)]) (W1 := (dW rv9 ra rb (.ref 6) (vX tv ta tb (adZ z9) (adS st9 z9 (stX (nI 7) (nI 0))) (upd bg ((ck k) - 132) (nI z))))) (bs := []) rfl rfl rfl ?_
          refine XG.callV0 eX3_parseLaw_116 kl_X3_130 (cc_take (d - 1) rv9 ra rb (.ref 6) (vX tv ta tb (adZ z9) (adS st9 z9 (stX (nI 7) (nI 0))) (upd bg ((ck k) - 132) (nI z))) K hT (prj (bd (bd (prj (bd (bd (prj (bd (bd (bd (.inr q.1) (fun s => .inl (2, s.1))) (mstS K 30)) (lfE (exS K 6)))) (mstS K 13)) (lfE (exS K 6)))) (mstS K 31)) (lfE (exS K 6)))) hE9.2.2.1 32 (by unfold vk; omega) (by omega)) (px_fitS (by omega)) rfl rfl rfl (Nat.le_of_ble_eq_true rfl) (fun r9 W9 hp9 hl9 => ?_)
          obtain ⟨rv10, rfl, hc10, hP10, rfl⟩ := hp9
          show XG _ _ _ _ _ _ [] (dW rv10 ra rb (.ref 6) (vX tv ta tb (adZ z9) (adS st9 z9 (stX (nI 7) (nI 0))) (upd bg ((ck k) - 132) (nI z))))
          refine XG.blk tX3_parseLaw_ok 60 4 (pc' := 127) (pl' := [some (.ref 0), some (.int (nI (ck k))), some (.int (nI i)), some (.int (nI (adZ z7 - 1)))]) (st' := [(.int (nI (adZ z7 - 1))), (.ref 17)]) (W1 := (dW rv10 ra rb (.ref 6) (vX tv ta tb (adZ z9) (adS st9 z9 (stX (nI 7) (nI 0))) (upd bg ((ck k) - 132) (nI z))))) (bs := []) rfl rfl rfl ?_
          refine XG.callV (ro := [17, 18, 19, 20]) (W1 := (gW (nI (adZ z9)) (adS st9 z9 (stX (nI 7) (nI 0))) (upd bg ((ck k) - 132) (nI z)) (ta 22))) eX3_parseLaw_127 kl_X3_230 (cc_aim (d - 1) (adZ z9) (adS st9 z9 (stX (nI 7) (nI 0))) (upd bg ((ck k) - 132) (nI z)) (ta 22) (adZ_le hE9.2.1) (adZ z7 - 1) (by have := adZ_le (z := z7) (by omega); omega)) (px_fitS (by omega)) rfl ⟨rfl, by decide, by decide⟩ rfl rfl (Nat.le_of_ble_eq_true rfl) (fun r9 W9 hp9 hl9 => ?_)
          obtain ⟨rfl, rfl⟩ := hp9
          rw [pt_vg]
          show XG _ _ _ _ _ _ [] (dW rv10 ra rb (.ref 6) (vX tv ta tb (adZ z9) (upd (adS st9 z9 (stX (nI 7) (nI 0))) (adZ z7 - 1) (stX (nI 6) (nI (adZ z9)))) (upd bg ((ck k) - 132) (nI z))))
          have q3 : ((nI i) + (nI 1)) = (nI (i + 1)) := px_eadd rfl rfl
          refine XG.blk tX3_parseLaw_ok 65 1 (pc' := 133) (pl' := [some (.ref 0), some (.int (nI (ck k))), some (.int ((nI i) + (nI 1))), some (.int (nI (adZ z7 - 1)))]) (st' := []) (W1 := (dW rv10 ra rb (.ref 6) (vX tv ta tb (adZ z9) (upd (adS st9 z9 (stX (nI 7) (nI 0))) (adZ z7 - 1) (stX (nI 6) (nI (adZ z9)))) (upd bg ((ck k) - 132) (nI z))))) (bs := []) rfl rfl rfl ?_
          simp only [q3]
          refine XG.goto eX3_parseLaw_133 (tgt := 28) (by decide) ?_
          refine XG.weak (pl' := [some (.ref 0), some (.int (nI (ck k))), some (.int (nI (i + 1))), none]) ⟨rfl, rfl, rfl, trivial⟩ ?_
          exact ihi _ _ _ (.inl (2, q.1.1)) (hcw.tr ((hc3.mono (by decide)).tr (hc4.tr (hc5.tr (hc6.tr (hc7.tr (hc8.tr (hc9.tr hc10)))))))) ⟨by have := adZ_g (z := z7); have := adZ_g (z := z9); omega, adZ_le le9, hP10, fun q h => by cases h⟩ ⟨fun w => absurd w (by omega), fun _ => ⟨_, rfl, (hF.1 (by omega)).symm.trans (by rw [show 4 - i = 0 by omega]; exact law_over hkq)⟩⟩
