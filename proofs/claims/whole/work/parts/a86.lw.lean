/-! THE LAW: what changes the night -/
set_option maxRecDepth 100000 in
set_option maxHeartbeats 1000000 in
theorem lc_send {L : Nat} {xs : Nat → Int32} (hL : L ≤ 3072) (k : Nat) (hk : 6 * k + 6 ≤ L) (W0 : px_W) (hI : LI (24 * k) W0) (kk : ∀ W1, LI (24 * k + 24) W1 → XG mL_law (px_gL L xs) 131 22130 1021 [some (.ref 1000), some (.ref 0), some (.ref 82), some (.int (nI (6 * k)))] [] W1) : XG mL_law (px_gL L xs) 131 22130 439 [some (.ref 1000), some (.ref 0), some (.ref 82), some (.int (nI (6 * k)))] [] W0 := by
  obtain ⟨ro1, ro2, S, lv, v, a, b, bv, tv, ta, tb, uv, ua, ub, rv, ra, rb, rt9, se, pv, pa, gv, ga, ov, oa, qv, qa, hv, ha, nv, na, yv, ya, cf, cs, h1, h2, hc1, hc2, hdis, iv⟩ := hI
  have hdi2 : ∀ j, j ∈ ro1 → j ∉ ro2 := fun j h w => hdis j w h
  have hs := iv.tx.2.1
  have hr := iv.tx.2.2.1
  obtain ⟨u, np, hu, hnp, e61, e10, e11, hold⟩ := iv.un
  have h5 := hs.2.1
  have h6 := hs.1
  refine XG.blk tL_law_ok 235 5 (pc' := 444) (pl' := [some (.ref 1000), some (.ref 0), some (.ref 82), some (.int (nI (6 * k)))]) (st' := [(.int (nI (6 * k) + nI 1)), (.ref 1000), (.ref 0)]) (W1 := _) (bs := []) rfl rfl rfl ?_
  rw [show nI (6 * k) + nI 1 = nI (6 * k + 1) from px_eadd rfl rfl]
  refine XG.sldL (j := 6 * k + 1) (by omega) hL dL_444 ?_
  refine XG.callV (ro := ro1) (W1 := (sW bv tv ta tb uv ua ub rv ra rb (px_tr (px_f [31, 32, 33, 34, 35, 36, 16, 17, 18, 19, 20, 21, 22, 23, 24, 25, 26, 27, 28, 29, 30, 1, 2, 3, 4, 5, 6, 7, 8, 9, 10, 11, 12, 13, 14, 15]) rt9) se pv pa gv ga ov oa qv qa hv ha nv na yv ya cf cs)) (rest := []) eL_law_445 kl_L_53 (cs_send 100 bv tv ta tb uv ua ub rv ra rb (px_tr (px_f [31, 32, 33, 34, 35, 36, 16, 17, 18, 19, 20, 21, 22, 23, 24, 25, 26, 27, 28, 29, 30, 1, 2, 3, 4, 5, 6, 7, 8, 9, 10, 11, 12, 13, 14, 15]) rt9) se pv pa gv ga ov oa qv qa hv ha nv na yv ya cf cs S lv a iv.tx.q iv.nt np u hnp hu e11 e10 (xs (6 * k + 1)) (by decide)) fitL rfl h1 rfl (by rw [hc1]; rfl) (Nat.le_of_ble_eq_true rfl) (fun r9 W9 hp9 hl9 => ?_)
  have h1b := sub_pt h1 hl9
  have h2b := sub_pt2 (ro := ro1) (W1 := W9) h2 hdis
  revert h1b h2b
  generalize px_pt (px_f ro1) ro1 W9 W0 = W2
  intro h1b h2b
  rcases hp9 with ⟨hC, na9, rfl, hN9, rfl⟩ | ⟨hC, rfl, rfl⟩
  · skip
    show XG _ _ _ _ 448 [some (.ref 1000), some (.ref 0), some (.ref 82), some (.int (nI (6 * k)))] [(.int 1)] _
    refine XG.blk tL_law_ok 242 5 (pc' := 453) (pl' := [some (.ref 1000), some (.ref 0), some (.ref 82), some (.int (nI (6 * k)))]) (st' := [(.int (nI (6 * k) + nI 1)), (.ref 1000), (.ref 82), (.int 1)]) (W1 := _) (bs := []) rfl rfl rfl ?_
    rw [show nI (6 * k) + nI 1 = nI (6 * k + 1) from px_eadd rfl rfl]
    refine XG.sldL (j := 6 * k + 1) (by omega) hL dL_453 ?_
    refine XG.callV (ro := ro2) (W1 := (mW v a b)) (rest := [(.int 1)]) eL_law_454 kl_L_57 (con_send 100 v a b lv (S.1 23) (S.1 24) (S.1 31) iv.mi iv.wf u e61 hu (xs (6 * k + 1)) (by decide)) fitL rfl h2b rfl (by rw [hc2]; rfl) (Nat.le_of_ble_eq_true rfl) (fun r8 W8 hp8 hl8 => ?_)
    have h1c := sub_pt2 (ro := ro2) (W1 := W8) h1b hdi2
    have h2c := sub_pt h2b hl8
    revert h1c h2c
    generalize px_pt (px_f ro2) ro2 W8 W2 = W3
    intro h1c h2c
    obtain ⟨v9, a9, rfl, (⟨hD, hq, rfl⟩ | ⟨hD, hq, rfl⟩)⟩ := hp8
    · skip
      show XG _ _ _ _ 457 [some (.ref 1000), some (.ref 0), some (.ref 82), some (.int (nI (6 * k)))] [(.int 1), (.int 1)] _
      refine XG.br eL_law_457 (P := 1 = 1) (r := []) rfl (tgt := 1021) (by decide) (fun _ => kk _ ⟨ro1, ro2, S, lv, _, _, _, _, _, _, _, _, _, _, _, _, _, _, _, _, _, _, _, _, _, _, _, _, _, _, _, _, _, _, _, h1c, h2c, hc1, hc2, hdis, iv.nw (H' := 24 * k + 24) (by omega) hu hnp e11 hold hq hN9 ((iv.rr.wh hs (vb_cl (by omega) hC.1) (Or.inl rfl)).mono (by omega))⟩) (fun h => absurd (rfl) h)
    · skip
      exact absurd hC hD
  · skip
    show XG _ _ _ _ 448 [some (.ref 1000), some (.ref 0), some (.ref 82), some (.int (nI (6 * k)))] [(.int 0)] _
    refine XG.blk tL_law_ok 242 5 (pc' := 453) (pl' := [some (.ref 1000), some (.ref 0), some (.ref 82), some (.int (nI (6 * k)))]) (st' := [(.int (nI (6 * k) + nI 1)), (.ref 1000), (.ref 82), (.int 0)]) (W1 := _) (bs := []) rfl rfl rfl ?_
    rw [show nI (6 * k) + nI 1 = nI (6 * k + 1) from px_eadd rfl rfl]
    refine XG.sldL (j := 6 * k + 1) (by omega) hL dL_453 ?_
    refine XG.callV (ro := ro2) (W1 := (mW v a b)) (rest := [(.int 0)]) eL_law_454 kl_L_57 (con_send 100 v a b lv (S.1 23) (S.1 24) (S.1 31) iv.mi iv.wf u e61 hu (xs (6 * k + 1)) (by decide)) fitL rfl h2b rfl (by rw [hc2]; rfl) (Nat.le_of_ble_eq_true rfl) (fun r8 W8 hp8 hl8 => ?_)
    have h1c := sub_pt2 (ro := ro2) (W1 := W8) h1b hdi2
    have h2c := sub_pt h2b hl8
    revert h1c h2c
    generalize px_pt (px_f ro2) ro2 W8 W2 = W3
    intro h1c h2c
    obtain ⟨v9, a9, rfl, (⟨hD, hq, rfl⟩ | ⟨hD, hq, rfl⟩)⟩ := hp8
    · skip
      exact absurd hD hC
    · skip
      show XG _ _ _ _ 457 [some (.ref 1000), some (.ref 0), some (.ref 82), some (.int (nI (6 * k)))] [(.int 0), (.int 0)] _
      refine XG.br eL_law_457 (P := 0 = 0) (r := []) rfl (tgt := 1021) (by decide) (fun _ => kk _ ⟨ro1, ro2, S, lv, _, _, _, _, _, _, _, _, _, _, _, _, _, _, _, _, _, _, _, _, _, _, _, _, _, _, _, _, _, _, _, h1c, h2c, hc1, hc2, hdis, (iv.qs hq).mono (by omega)⟩) (fun h => absurd (rfl) h)
set_option maxRecDepth 100000 in
set_option maxHeartbeats 1000000 in
theorem lc_lay {L : Nat} {xs : Nat → Int32} (hL : L ≤ 3072) (k : Nat) (hk : 6 * k + 6 ≤ L) (W0 : px_W) (hI : LI (24 * k) W0) (kk : ∀ W1, LI (24 * k + 24) W1 → XG mL_law (px_gL L xs) 131 22130 1021 [some (.ref 1000), some (.ref 0), some (.ref 82), some (.int (nI (6 * k)))] [] W1) : XG mL_law (px_gL L xs) 131 22130 462 [some (.ref 1000), some (.ref 0), some (.ref 82), some (.int (nI (6 * k)))] [] W0 := by
  obtain ⟨ro1, ro2, S, lv, v, a, b, bv, tv, ta, tb, uv, ua, ub, rv, ra, rb, rt9, se, pv, pa, gv, ga, ov, oa, qv, qa, hv, ha, nv, na, yv, ya, cf, cs, h1, h2, hc1, hc2, hdis, iv⟩ := hI
  have hdi2 : ∀ j, j ∈ ro1 → j ∉ ro2 := fun j h w => hdis j w h
  have hs := iv.tx.2.1
  have hr := iv.tx.2.2.1
  obtain ⟨u, np, hu, hnp, e61, e10, e11, hold⟩ := iv.un
  have h5 := hs.2.1
  have h6 := hs.1
  refine XG.blk tL_law_ok 252 5 (pc' := 467) (pl' := [some (.ref 1000), some (.ref 0), some (.ref 82), some (.int (nI (6 * k)))]) (st' := [(.int (nI (6 * k) + nI 1)), (.ref 1000), (.ref 0)]) (W1 := _) (bs := []) rfl rfl rfl ?_
  rw [show nI (6 * k) + nI 1 = nI (6 * k + 1) from px_eadd rfl rfl]
  refine XG.sldL (j := 6 * k + 1) (by omega) hL dL_467 ?_
  refine XG.blk tL_law_ok 258 4 (pc' := 472) (pl' := [some (.ref 1000), some (.ref 0), some (.ref 82), some (.int (nI (6 * k)))]) (st' := [(.int (nI (6 * k) + nI 2)), (.ref 1000), (.int (xs (6 * k + 1))), (.ref 0)]) (W1 := _) (bs := []) rfl rfl rfl ?_
  rw [show nI (6 * k) + nI 2 = nI (6 * k + 2) from px_eadd rfl rfl]
  refine XG.sldL (j := 6 * k + 2) (by omega) hL dL_472 ?_
  refine XG.callV (ro := ro1) (W1 := (sW bv tv ta tb uv ua ub rv ra rb (px_tr (px_f [31, 32, 33, 34, 35, 36, 16, 17, 18, 19, 20, 21, 22, 23, 24, 25, 26, 27, 28, 29, 30, 1, 2, 3, 4, 5, 6, 7, 8, 9, 10, 11, 12, 13, 14, 15]) rt9) se pv pa gv ga ov oa qv qa hv ha nv na yv ya cf cs)) (rest := []) eL_law_473 kl_L_58 (cs_lay 100 bv tv ta tb uv ua ub rv ra rb (px_tr (px_f [31, 32, 33, 34, 35, 36, 16, 17, 18, 19, 20, 21, 22, 23, 24, 25, 26, 27, 28, 29, 30, 1, 2, 3, 4, 5, 6, 7, 8, 9, 10, 11, 12, 13, 14, 15]) rt9) se pv pa gv ga ov oa qv qa hv ha nv na yv ya cf cs S lv a iv.tx.q iv.nt np u hnp hu e11 e10 (xs (6 * k + 1)) (xs (6 * k + 2)) (by decide)) fitL rfl h1 rfl (by rw [hc1]; rfl) (Nat.le_of_ble_eq_true rfl) (fun r9 W9 hp9 hl9 => ?_)
  have h1b := sub_pt h1 hl9
  have h2b := sub_pt2 (ro := ro1) (W1 := W9) h2 hdis
  revert h1b h2b
  generalize px_pt (px_f ro1) ro1 W9 W0 = W2
  intro h1b h2b
  rcases hp9 with ⟨hC, na9, rfl, hN9, rfl⟩ | ⟨hC, rfl, rfl⟩
  · skip
    show XG _ _ _ _ 476 [some (.ref 1000), some (.ref 0), some (.ref 82), some (.int (nI (6 * k)))] [(.int 1)] _
    refine XG.blk tL_law_ok 264 5 (pc' := 481) (pl' := [some (.ref 1000), some (.ref 0), some (.ref 82), some (.int (nI (6 * k)))]) (st' := [(.int (nI (6 * k) + nI 1)), (.ref 1000), (.ref 82), (.int 1)]) (W1 := _) (bs := []) rfl rfl rfl ?_
    rw [show nI (6 * k) + nI 1 = nI (6 * k + 1) from px_eadd rfl rfl]
    refine XG.sldL (j := 6 * k + 1) (by omega) hL dL_481 ?_
    refine XG.blk tL_law_ok 270 4 (pc' := 486) (pl' := [some (.ref 1000), some (.ref 0), some (.ref 82), some (.int (nI (6 * k)))]) (st' := [(.int (nI (6 * k) + nI 2)), (.ref 1000), (.int (xs (6 * k + 1))), (.ref 82), (.int 1)]) (W1 := _) (bs := []) rfl rfl rfl ?_
    rw [show nI (6 * k) + nI 2 = nI (6 * k + 2) from px_eadd rfl rfl]
    refine XG.sldL (j := 6 * k + 2) (by omega) hL dL_486 ?_
    refine XG.callV (ro := ro2) (W1 := (mW v a b)) (rest := [(.int 1)]) eL_law_487 kl_L_62 (con_lay 100 v a b lv (S.1 23) (S.1 24) (S.1 31) iv.mi iv.wf u e61 hu (xs (6 * k + 1)) (xs (6 * k + 2)) (by decide)) fitL rfl h2b rfl (by rw [hc2]; rfl) (Nat.le_of_ble_eq_true rfl) (fun r8 W8 hp8 hl8 => ?_)
    have h1c := sub_pt2 (ro := ro2) (W1 := W8) h1b hdi2
    have h2c := sub_pt h2b hl8
    revert h1c h2c
    generalize px_pt (px_f ro2) ro2 W8 W2 = W3
    intro h1c h2c
    obtain ⟨v9, a9, rfl, (⟨hD, hq, rfl⟩ | ⟨hD, hq, rfl⟩)⟩ := hp8
    · skip
      show XG _ _ _ _ 490 [some (.ref 1000), some (.ref 0), some (.ref 82), some (.int (nI (6 * k)))] [(.int 1), (.int 1)] _
      refine XG.br eL_law_490 (P := 1 = 1) (r := []) rfl (tgt := 1021) (by decide) (fun _ => kk _ ⟨ro1, ro2, S, lv, _, _, _, _, _, _, _, _, _, _, _, _, _, _, _, _, _, _, _, _, _, _, _, _, _, _, _, _, _, _, _, h1c, h2c, hc1, hc2, hdis, iv.nw (H' := 24 * k + 24) (by omega) hu hnp e11 hold hq hN9 ((iv.rr.lo hs (by have := vb_cl (show S.1 24 < 2 ^ 31 by omega) hC.1.1; omega) (by omega)).mono (by omega))⟩) (fun h => absurd (rfl) h)
    · skip
      exact absurd hC hD
  · skip
    show XG _ _ _ _ 476 [some (.ref 1000), some (.ref 0), some (.ref 82), some (.int (nI (6 * k)))] [(.int 0)] _
    refine XG.blk tL_law_ok 264 5 (pc' := 481) (pl' := [some (.ref 1000), some (.ref 0), some (.ref 82), some (.int (nI (6 * k)))]) (st' := [(.int (nI (6 * k) + nI 1)), (.ref 1000), (.ref 82), (.int 0)]) (W1 := _) (bs := []) rfl rfl rfl ?_
    rw [show nI (6 * k) + nI 1 = nI (6 * k + 1) from px_eadd rfl rfl]
    refine XG.sldL (j := 6 * k + 1) (by omega) hL dL_481 ?_
    refine XG.blk tL_law_ok 270 4 (pc' := 486) (pl' := [some (.ref 1000), some (.ref 0), some (.ref 82), some (.int (nI (6 * k)))]) (st' := [(.int (nI (6 * k) + nI 2)), (.ref 1000), (.int (xs (6 * k + 1))), (.ref 82), (.int 0)]) (W1 := _) (bs := []) rfl rfl rfl ?_
    rw [show nI (6 * k) + nI 2 = nI (6 * k + 2) from px_eadd rfl rfl]
    refine XG.sldL (j := 6 * k + 2) (by omega) hL dL_486 ?_
    refine XG.callV (ro := ro2) (W1 := (mW v a b)) (rest := [(.int 0)]) eL_law_487 kl_L_62 (con_lay 100 v a b lv (S.1 23) (S.1 24) (S.1 31) iv.mi iv.wf u e61 hu (xs (6 * k + 1)) (xs (6 * k + 2)) (by decide)) fitL rfl h2b rfl (by rw [hc2]; rfl) (Nat.le_of_ble_eq_true rfl) (fun r8 W8 hp8 hl8 => ?_)
    have h1c := sub_pt2 (ro := ro2) (W1 := W8) h1b hdi2
    have h2c := sub_pt h2b hl8
    revert h1c h2c
    generalize px_pt (px_f ro2) ro2 W8 W2 = W3
    intro h1c h2c
    obtain ⟨v9, a9, rfl, (⟨hD, hq, rfl⟩ | ⟨hD, hq, rfl⟩)⟩ := hp8
    · skip
      exact absurd hD hC
    · skip
      show XG _ _ _ _ 490 [some (.ref 1000), some (.ref 0), some (.ref 82), some (.int (nI (6 * k)))] [(.int 0), (.int 0)] _
      refine XG.br eL_law_490 (P := 0 = 0) (r := []) rfl (tgt := 1021) (by decide) (fun _ => kk _ ⟨ro1, ro2, S, lv, _, _, _, _, _, _, _, _, _, _, _, _, _, _, _, _, _, _, _, _, _, _, _, _, _, _, _, _, _, _, _, h1c, h2c, hc1, hc2, hdis, (iv.qs hq).mono (by omega)⟩) (fun h => absurd (rfl) h)
set_option maxRecDepth 100000 in
set_option maxHeartbeats 1000000 in
theorem lc_lull {L : Nat} {xs : Nat → Int32} (hL : L ≤ 3072) (k : Nat) (hk : 6 * k + 6 ≤ L) (W0 : px_W) (hI : LI (24 * k) W0) (kk : ∀ W1, LI (24 * k + 24) W1 → XG mL_law (px_gL L xs) 131 22130 1021 [some (.ref 1000), some (.ref 0), some (.ref 82), some (.int (nI (6 * k)))] [] W1) : XG mL_law (px_gL L xs) 131 22130 495 [some (.ref 1000), some (.ref 0), some (.ref 82), some (.int (nI (6 * k)))] [] W0 := by
  obtain ⟨ro1, ro2, S, lv, v, a, b, bv, tv, ta, tb, uv, ua, ub, rv, ra, rb, rt9, se, pv, pa, gv, ga, ov, oa, qv, qa, hv, ha, nv, na, yv, ya, cf, cs, h1, h2, hc1, hc2, hdis, iv⟩ := hI
  have hdi2 : ∀ j, j ∈ ro1 → j ∉ ro2 := fun j h w => hdis j w h
  have hs := iv.tx.2.1
  have hr := iv.tx.2.2.1
  obtain ⟨u, np, hu, hnp, e61, e10, e11, hold⟩ := iv.un
  have h5 := hs.2.1
  have h6 := hs.1
  refine XG.blk tL_law_ok 279 5 (pc' := 500) (pl' := [some (.ref 1000), some (.ref 0), some (.ref 82), some (.int (nI (6 * k)))]) (st' := [(.int (nI (6 * k) + nI 1)), (.ref 1000), (.ref 0)]) (W1 := _) (bs := []) rfl rfl rfl ?_
  rw [show nI (6 * k) + nI 1 = nI (6 * k + 1) from px_eadd rfl rfl]
  refine XG.sldL (j := 6 * k + 1) (by omega) hL dL_500 ?_
  refine XG.callV (ro := ro1) (W1 := (sW bv tv ta tb uv ua ub rv ra rb (px_tr (px_f [31, 32, 33, 34, 35, 36, 16, 17, 18, 19, 20, 21, 22, 23, 24, 25, 26, 27, 28, 29, 30, 1, 2, 3, 4, 5, 6, 7, 8, 9, 10, 11, 12, 13, 14, 15]) rt9) se pv pa gv ga ov oa qv qa hv ha nv na yv ya cf cs)) (rest := []) eL_law_501 kl_L_63 (cs_lull 100 bv tv ta tb uv ua ub rv ra rb (px_tr (px_f [31, 32, 33, 34, 35, 36, 16, 17, 18, 19, 20, 21, 22, 23, 24, 25, 26, 27, 28, 29, 30, 1, 2, 3, 4, 5, 6, 7, 8, 9, 10, 11, 12, 13, 14, 15]) rt9) se pv pa gv ga ov oa qv qa hv ha nv na yv ya cf cs S lv a iv.tx.q iv.nt np u hnp hu e11 e10 iv.rr.2.2 (xs (6 * k + 1)) (by decide)) fitL rfl h1 rfl (by rw [hc1]; rfl) (Nat.le_of_ble_eq_true rfl) (fun r9 W9 hp9 hl9 => ?_)
  have h1b := sub_pt h1 hl9
  have h2b := sub_pt2 (ro := ro1) (W1 := W9) h2 hdis
  revert h1b h2b
  generalize px_pt (px_f ro1) ro1 W9 W0 = W2
  intro h1b h2b
  rcases hp9 with ⟨hC, nv9, na9, rfl, hN9, rfl⟩ | ⟨hC, rfl, rfl⟩
  · skip
    show XG _ _ _ _ 504 [some (.ref 1000), some (.ref 0), some (.ref 82), some (.int (nI (6 * k)))] [(.int (lullR a ((xs (6 * k + 1))).toNatClampNeg ((xs (6 * k + 1))).toNatClampNeg))] _
    refine XG.blk tL_law_ok 286 5 (pc' := 509) (pl' := [some (.ref 1000), some (.ref 0), some (.ref 82), some (.int (nI (6 * k)))]) (st' := [(.int (nI (6 * k) + nI 1)), (.ref 1000), (.ref 82), (.int (lullR a ((xs (6 * k + 1))).toNatClampNeg ((xs (6 * k + 1))).toNatClampNeg))]) (W1 := _) (bs := []) rfl rfl rfl ?_
    rw [show nI (6 * k) + nI 1 = nI (6 * k + 1) from px_eadd rfl rfl]
    refine XG.sldL (j := 6 * k + 1) (by omega) hL dL_509 ?_
    refine XG.callV (ro := ro2) (W1 := (mW v a b)) (rest := [(.int (lullR a ((xs (6 * k + 1))).toNatClampNeg ((xs (6 * k + 1))).toNatClampNeg))]) eL_law_510 kl_L_66 (con_lull 100 v a b lv (S.1 23) (S.1 24) (S.1 31) iv.mi iv.wf u e61 hu (xs (6 * k + 1)) (by decide)) fitL rfl h2b rfl (by rw [hc2]; rfl) (Nat.le_of_ble_eq_true rfl) (fun r8 W8 hp8 hl8 => ?_)
    have h1c := sub_pt2 (ro := ro2) (W1 := W8) h1b hdi2
    have h2c := sub_pt h2b hl8
    revert h1c h2c
    generalize px_pt (px_f ro2) ro2 W8 W2 = W3
    intro h1c h2c
    obtain ⟨v9, a9, rfl, (⟨g1, g2, g3, hq, rfl⟩ | ⟨hD, hq, rfl⟩)⟩ := hp8
    · skip
      show XG _ _ _ _ 513 [some (.ref 1000), some (.ref 0), some (.ref 82), some (.int (nI (6 * k)))] [(.int (lullR a ((xs (6 * k + 1))).toNatClampNeg ((xs (6 * k + 1))).toNatClampNeg)), (.int (lullR a ((xs (6 * k + 1))).toNatClampNeg ((xs (6 * k + 1))).toNatClampNeg))] _
      refine XG.br eL_law_513 (P := (lullR a ((xs (6 * k + 1))).toNatClampNeg ((xs (6 * k + 1))).toNatClampNeg) = (lullR a ((xs (6 * k + 1))).toNatClampNeg ((xs (6 * k + 1))).toNatClampNeg)) (r := []) rfl (tgt := 1021) (by decide) (fun _ => kk _ ⟨ro1, ro2, S, lv, _, _, _, _, _, _, _, _, _, _, _, _, _, _, _, _, _, _, _, _, _, _, _, _, _, _, _, _, _, _, _, h1c, h2c, hc1, hc2, hdis, iv.nw (H' := 24 * k + 24) (by omega) hu hnp e11 hold hq hN9 ((iv.rr.lull hs (vb_cl (by omega) hC.1)).mono (by omega))⟩) (fun h => absurd (rfl) h)
    · skip
      exact absurd hC hD
  · skip
    show XG _ _ _ _ 504 [some (.ref 1000), some (.ref 0), some (.ref 82), some (.int (nI (6 * k)))] [(.int (if px_vb (xs (6 * k + 1)) (S.1 24) = true then -2 else -1))] _
    refine XG.blk tL_law_ok 286 5 (pc' := 509) (pl' := [some (.ref 1000), some (.ref 0), some (.ref 82), some (.int (nI (6 * k)))]) (st' := [(.int (nI (6 * k) + nI 1)), (.ref 1000), (.ref 82), (.int (if px_vb (xs (6 * k + 1)) (S.1 24) = true then -2 else -1))]) (W1 := _) (bs := []) rfl rfl rfl ?_
    rw [show nI (6 * k) + nI 1 = nI (6 * k + 1) from px_eadd rfl rfl]
    refine XG.sldL (j := 6 * k + 1) (by omega) hL dL_509 ?_
    refine XG.callV (ro := ro2) (W1 := (mW v a b)) (rest := [(.int (if px_vb (xs (6 * k + 1)) (S.1 24) = true then -2 else -1))]) eL_law_510 kl_L_66 (con_lull 100 v a b lv (S.1 23) (S.1 24) (S.1 31) iv.mi iv.wf u e61 hu (xs (6 * k + 1)) (by decide)) fitL rfl h2b rfl (by rw [hc2]; rfl) (Nat.le_of_ble_eq_true rfl) (fun r8 W8 hp8 hl8 => ?_)
    have h1c := sub_pt2 (ro := ro2) (W1 := W8) h1b hdi2
    have h2c := sub_pt h2b hl8
    revert h1c h2c
    generalize px_pt (px_f ro2) ro2 W8 W2 = W3
    intro h1c h2c
    obtain ⟨v9, a9, rfl, (⟨g1, g2, g3, hq, rfl⟩ | ⟨hD, hq, rfl⟩)⟩ := hp8
    · skip
      exact absurd ⟨g1, g2, g3⟩ hC
    · skip
      show XG _ _ _ _ 513 [some (.ref 1000), some (.ref 0), some (.ref 82), some (.int (nI (6 * k)))] [(.int (if px_vb (xs (6 * k + 1)) (S.1 24) = true then -2 else -1)), (.int (if px_vb (xs (6 * k + 1)) (S.1 24) = true then -2 else -1))] _
      refine XG.br eL_law_513 (P := (if px_vb (xs (6 * k + 1)) (S.1 24) = true then -2 else -1) = (if px_vb (xs (6 * k + 1)) (S.1 24) = true then -2 else -1)) (r := []) rfl (tgt := 1021) (by decide) (fun _ => kk _ ⟨ro1, ro2, S, lv, _, _, _, _, _, _, _, _, _, _, _, _, _, _, _, _, _, _, _, _, _, _, _, _, _, _, _, _, _, _, _, h1c, h2c, hc1, hc2, hdis, (iv.qs hq).mono (by omega)⟩) (fun h => absurd (rfl) h)
set_option maxRecDepth 100000 in
set_option maxHeartbeats 1000000 in
theorem lc_hours {L : Nat} {xs : Nat → Int32} (hL : L ≤ 3072) (k : Nat) (hk : 6 * k + 6 ≤ L) (W0 : px_W) (hI : LI (24 * k) W0) (kk : ∀ W1, LI (24 * k + 24) W1 → XG mL_law (px_gL L xs) 131 22130 1021 [some (.ref 1000), some (.ref 0), some (.ref 82), some (.int (nI (6 * k)))] [] W1) : XG mL_law (px_gL L xs) 131 22130 518 [some (.ref 1000), some (.ref 0), some (.ref 82), some (.int (nI (6 * k)))] [] W0 := by
  obtain ⟨ro1, ro2, S, lv, v, a, b, bv, tv, ta, tb, uv, ua, ub, rv, ra, rb, rt9, se, pv, pa, gv, ga, ov, oa, qv, qa, hv, ha, nv, na, yv, ya, cf, cs, h1, h2, hc1, hc2, hdis, iv⟩ := hI
  have hdi2 : ∀ j, j ∈ ro1 → j ∉ ro2 := fun j h w => hdis j w h
  have hs := iv.tx.2.1
  have hr := iv.tx.2.2.1
  obtain ⟨u, np, hu, hnp, e61, e10, e11, hold⟩ := iv.un
  have h5 := hs.2.1
  have h6 := hs.1
  refine XG.blk tL_law_ok 296 5 (pc' := 523) (pl' := [some (.ref 1000), some (.ref 0), some (.ref 82), some (.int (nI (6 * k)))]) (st' := [(.int (nI (6 * k) + nI 1)), (.ref 1000), (.ref 0)]) (W1 := _) (bs := []) rfl rfl rfl ?_
  rw [show nI (6 * k) + nI 1 = nI (6 * k + 1) from px_eadd rfl rfl]
  refine XG.sldL (j := 6 * k + 1) (by omega) hL dL_523 ?_
  refine XG.callV (ro := ro1) (W1 := (sW bv tv ta tb uv ua ub rv ra rb (px_tr (px_f [31, 32, 33, 34, 35, 36, 16, 17, 18, 19, 20, 21, 22, 23, 24, 25, 26, 27, 28, 29, 30, 1, 2, 3, 4, 5, 6, 7, 8, 9, 10, 11, 12, 13, 14, 15]) rt9) se pv pa gv ga ov oa qv qa hv ha nv na yv ya cf cs)) (rest := []) eL_law_524 kl_L_67 (cs_hours 100 bv tv ta tb uv ua ub rv ra rb (px_tr (px_f [31, 32, 33, 34, 35, 36, 16, 17, 18, 19, 20, 21, 22, 23, 24, 25, 26, 27, 28, 29, 30, 1, 2, 3, 4, 5, 6, 7, 8, 9, 10, 11, 12, 13, 14, 15]) rt9) se pv pa gv ga ov oa qv qa hv ha nv na yv ya cf cs S lv v a iv.tx.q iv.nt np u hnp hu e11 e10 (24 * k) iv.gr (by omega) (xs (6 * k + 1)) (by decide)) fitL rfl h1 rfl (by rw [hc1]; rfl) (Nat.le_of_ble_eq_true rfl) (fun r9 W9 hp9 hl9 => ?_)
  have h1b := sub_pt h1 hl9
  have h2b := sub_pt2 (ro := ro1) (W1 := W9) h2 hdis
  revert h1b h2b
  generalize px_pt (px_f ro1) ro1 W9 W0 = W2
  intro h1b h2b
  rcases hp9 with ⟨hC, nv9, na9, se9, ta9, rfl, hch, hN9, rfl⟩ | ⟨hC, rfl, rfl⟩
  · skip
    show XG _ _ _ _ 527 [some (.ref 1000), some (.ref 0), some (.ref 82), some (.int (nI (6 * k)))] [(.int (hoursR v a lv (S.1 23) (S.1 24) (S.1 31) ((xs (6 * k + 1))).toNatClampNeg 28))] _
    refine XG.blk tL_law_ok 303 5 (pc' := 532) (pl' := [some (.ref 1000), some (.ref 0), some (.ref 82), some (.int (nI (6 * k)))]) (st' := [(.int (nI (6 * k) + nI 1)), (.ref 1000), (.ref 82), (.int (hoursR v a lv (S.1 23) (S.1 24) (S.1 31) ((xs (6 * k + 1))).toNatClampNeg 28))]) (W1 := _) (bs := []) rfl rfl rfl ?_
    rw [show nI (6 * k) + nI 1 = nI (6 * k + 1) from px_eadd rfl rfl]
    refine XG.sldL (j := 6 * k + 1) (by omega) hL dL_532 ?_
    refine XG.callV (ro := ro2) (W1 := (mW v a b)) (rest := [(.int (hoursR v a lv (S.1 23) (S.1 24) (S.1 31) ((xs (6 * k + 1))).toNatClampNeg 28))]) eL_law_533 kl_L_70 (con_hours 100 v a b lv (S.1 23) (S.1 24) (S.1 31) iv.mi iv.wf u e61 hu (xs (6 * k + 1)) (by decide)) fitL rfl h2b rfl (by rw [hc2]; rfl) (Nat.le_of_ble_eq_true rfl) (fun r8 W8 hp8 hl8 => ?_)
    have h1c := sub_pt2 (ro := ro2) (W1 := W8) h1b hdi2
    have h2c := sub_pt h2b hl8
    revert h1c h2c
    generalize px_pt (px_f ro2) ro2 W8 W2 = W3
    intro h1c h2c
    obtain ⟨v9, a9, rfl, (⟨hD, hq, rfl⟩ | ⟨hD, hq, rfl⟩)⟩ := hp8
    · skip
      show XG _ _ _ _ 536 [some (.ref 1000), some (.ref 0), some (.ref 82), some (.int (nI (6 * k)))] [(.int (hoursR v a lv (S.1 23) (S.1 24) (S.1 31) ((xs (6 * k + 1))).toNatClampNeg 28)), (.int (hoursR v a lv (S.1 23) (S.1 24) (S.1 31) ((xs (6 * k + 1))).toNatClampNeg 28))] _
      have hn24 : ((xs (6 * k + 1))).toNatClampNeg ≤ 24 := by obtain ⟨n, -, hn, en⟩ := in_nat (by omega) (by omega) hC.1; rw [en, nI_clamp (by omega)]; exact hn
      refine XG.br eL_law_536 (P := (hoursR v a lv (S.1 23) (S.1 24) (S.1 31) ((xs (6 * k + 1))).toNatClampNeg 28) = (hoursR v a lv (S.1 23) (S.1 24) (S.1 31) ((xs (6 * k + 1))).toNatClampNeg 28)) (r := []) rfl (tgt := 1021) (by decide) (fun _ => kk _ ⟨ro1, ro2, S, lv, _, _, _, _, _, _, _, _, _, _, _, _, _, _, _, _, _, _, _, _, _, _, _, _, _, _, _, _, _, _, _, h1c, h2c, hc1, hc2, hdis, ((iv.c22 hch).nw (H' := 24 * k + 24) (by omega) hu hnp e11 hold hq hN9 ((iv.rr.hours hs hr (vQ v a lv 0) (aQ a) lv ((xs (6 * k + 1))).toNatClampNeg).mono (by omega)))⟩) (fun h => absurd (rfl) h)
    · skip
      exact absurd hC hD
  · skip
    show XG _ _ _ _ 527 [some (.ref 1000), some (.ref 0), some (.ref 82), some (.int (nI (6 * k)))] [(.int (if (xs (6 * k + 1)) = 0 then a 54 28 else -1))] _
    refine XG.blk tL_law_ok 303 5 (pc' := 532) (pl' := [some (.ref 1000), some (.ref 0), some (.ref 82), some (.int (nI (6 * k)))]) (st' := [(.int (nI (6 * k) + nI 1)), (.ref 1000), (.ref 82), (.int (if (xs (6 * k + 1)) = 0 then a 54 28 else -1))]) (W1 := _) (bs := []) rfl rfl rfl ?_
    rw [show nI (6 * k) + nI 1 = nI (6 * k + 1) from px_eadd rfl rfl]
    refine XG.sldL (j := 6 * k + 1) (by omega) hL dL_532 ?_
    refine XG.callV (ro := ro2) (W1 := (mW v a b)) (rest := [(.int (if (xs (6 * k + 1)) = 0 then a 54 28 else -1))]) eL_law_533 kl_L_70 (con_hours 100 v a b lv (S.1 23) (S.1 24) (S.1 31) iv.mi iv.wf u e61 hu (xs (6 * k + 1)) (by decide)) fitL rfl h2b rfl (by rw [hc2]; rfl) (Nat.le_of_ble_eq_true rfl) (fun r8 W8 hp8 hl8 => ?_)
    have h1c := sub_pt2 (ro := ro2) (W1 := W8) h1b hdi2
    have h2c := sub_pt h2b hl8
    revert h1c h2c
    generalize px_pt (px_f ro2) ro2 W8 W2 = W3
    intro h1c h2c
    obtain ⟨v9, a9, rfl, (⟨hD, hq, rfl⟩ | ⟨hD, hq, rfl⟩)⟩ := hp8
    · skip
      exact absurd hD hC
    · skip
      show XG _ _ _ _ 536 [some (.ref 1000), some (.ref 0), some (.ref 82), some (.int (nI (6 * k)))] [(.int (if (xs (6 * k + 1)) = 0 then a 54 28 else -1)), (.int (if (xs (6 * k + 1)) = 0 then a 54 28 else -1))] _
      refine XG.br eL_law_536 (P := (if (xs (6 * k + 1)) = 0 then a 54 28 else -1) = (if (xs (6 * k + 1)) = 0 then a 54 28 else -1)) (r := []) rfl (tgt := 1021) (by decide) (fun _ => kk _ ⟨ro1, ro2, S, lv, _, _, _, _, _, _, _, _, _, _, _, _, _, _, _, _, _, _, _, _, _, _, _, _, _, _, _, _, _, _, _, h1c, h2c, hc1, hc2, hdis, (iv.qs hq).mono (by omega)⟩) (fun h => absurd (rfl) h)
set_option maxRecDepth 100000 in
set_option maxHeartbeats 1000000 in
theorem lc_night {L : Nat} {xs : Nat → Int32} (hL : L ≤ 3072) (k : Nat) (hk : 6 * k + 6 ≤ L) (W0 : px_W) (hI : LI (24 * k) W0) (kk : ∀ W1, LI (24 * k + 24) W1 → XG mL_law (px_gL L xs) 131 22130 1021 [some (.ref 1000), some (.ref 0), some (.ref 82), some (.int (nI (6 * k)))] [] W1) : XG mL_law (px_gL L xs) 131 22130 541 [some (.ref 1000), some (.ref 0), some (.ref 82), some (.int (nI (6 * k)))] [] W0 := by
  obtain ⟨ro1, ro2, S, lv, v, a, b, bv, tv, ta, tb, uv, ua, ub, rv, ra, rb, rt9, se, pv, pa, gv, ga, ov, oa, qv, qa, hv, ha, nv, na, yv, ya, cf, cs, h1, h2, hc1, hc2, hdis, iv⟩ := hI
  have hdi2 : ∀ j, j ∈ ro1 → j ∉ ro2 := fun j h w => hdis j w h
  have hs := iv.tx.2.1
  have hr := iv.tx.2.2.1
  obtain ⟨u, np, hu, hnp, e61, e10, e11, hold⟩ := iv.un
  have h5 := hs.2.1
  have h6 := hs.1
  refine XG.blk tL_law_ok 313 1 (pc' := 542) (pl' := [some (.ref 1000), some (.ref 0), some (.ref 82), some (.int (nI (6 * k)))]) (st' := [(.ref 0)]) (W1 := _) (bs := []) rfl rfl rfl ?_
  refine XG.callV (ro := ro1) (W1 := (sW bv tv ta tb uv ua ub rv ra rb (px_tr (px_f [31, 32, 33, 34, 35, 36, 16, 17, 18, 19, 20, 21, 22, 23, 24, 25, 26, 27, 28, 29, 30, 1, 2, 3, 4, 5, 6, 7, 8, 9, 10, 11, 12, 13, 14, 15]) rt9) se pv pa gv ga ov oa qv qa hv ha nv na yv ya cf cs)) (rest := []) eL_law_542 kl_L_71 (cs_night 100 bv tv ta tb uv ua ub rv ra rb (px_tr (px_f [31, 32, 33, 34, 35, 36, 16, 17, 18, 19, 20, 21, 22, 23, 24, 25, 26, 27, 28, 29, 30, 1, 2, 3, 4, 5, 6, 7, 8, 9, 10, 11, 12, 13, 14, 15]) rt9) se pv pa gv ga ov oa qv qa hv ha nv na yv ya cf cs S lv a iv.tx.q iv.nt np u hnp hu e11 e10 iv.rr.2.1 (24 * k) iv.gr (by decide)) fitL rfl h1 rfl (by rw [hc1]; rfl) (Nat.le_of_ble_eq_true rfl) (fun r9 W9 hp9 hl9 => ?_)
  have h1b := sub_pt h1 hl9
  have h2b := sub_pt2 (ro := ro1) (W1 := W9) h2 hdis
  revert h1b h2b
  generalize px_pt (px_f ro1) ro1 W9 W0 = W2
  intro h1b h2b
  obtain ⟨nv9, na9, rfl, hN9, rfl⟩ := hp9
  show XG _ _ _ _ 545 [some (.ref 1000), some (.ref 0), some (.ref 82), some (.int (nI (6 * k)))] [(.int (nightR a lv (S.1 24) (S.1 31) 29))] _
  refine XG.blk tL_law_ok 315 1 (pc' := 546) (pl' := [some (.ref 1000), some (.ref 0), some (.ref 82), some (.int (nI (6 * k)))]) (st' := [(.ref 82), (.int (nightR a lv (S.1 24) (S.1 31) 29))]) (W1 := _) (bs := []) rfl rfl rfl ?_
  refine XG.callV (ro := ro2) (W1 := (mW v a b)) (rest := [(.int (nightR a lv (S.1 24) (S.1 31) 29))]) eL_law_546 kl_L_74 (con_night 100 v a b lv (S.1 23) (S.1 24) (S.1 31) iv.mi iv.wf u e61 hu (by decide)) fitL rfl h2b rfl (by rw [hc2]; rfl) (Nat.le_of_ble_eq_true rfl) (fun r8 W8 hp8 hl8 => ?_)
  have h1c := sub_pt2 (ro := ro2) (W1 := W8) h1b hdi2
  have h2c := sub_pt h2b hl8
  revert h1c h2c
  generalize px_pt (px_f ro2) ro2 W8 W2 = W3
  intro h1c h2c
  obtain ⟨v9, a9, rfl, hq, rfl⟩ := hp8
  show XG _ _ _ _ 549 [some (.ref 1000), some (.ref 0), some (.ref 82), some (.int (nI (6 * k)))] [(.int (nightR a lv (S.1 24) (S.1 31) 29)), (.int (nightR a lv (S.1 24) (S.1 31) 29))] _
  refine XG.br eL_law_549 (P := (nightR a lv (S.1 24) (S.1 31) 29) = (nightR a lv (S.1 24) (S.1 31) 29)) (r := []) rfl (tgt := 1021) (by decide) (fun _ => kk _ ⟨ro1, ro2, S, lv, _, _, _, _, _, _, _, _, _, _, _, _, _, _, _, _, _, _, _, _, _, _, _, _, _, _, _, _, _, _, _, h1c, h2c, hc1, hc2, hdis, iv.nw (H' := 24 * k + 24) (by omega) hu hnp e11 hold hq hN9 ((RR.ni iv.tx.1 hs hr iv.rr).mono (Nat.zero_le _))⟩) (fun h => absurd (rfl) h)
set_option maxRecDepth 100000 in
set_option maxHeartbeats 1000000 in
theorem lc_undo {L : Nat} {xs : Nat → Int32} (hL : L ≤ 3072) (k : Nat) (hk : 6 * k + 6 ≤ L) (W0 : px_W) (hI : LI (24 * k) W0) (kk : ∀ W1, LI (24 * k + 24) W1 → XG mL_law (px_gL L xs) 131 22130 1021 [some (.ref 1000), some (.ref 0), some (.ref 82), some (.int (nI (6 * k)))] [] W1) : XG mL_law (px_gL L xs) 131 22130 554 [some (.ref 1000), some (.ref 0), some (.ref 82), some (.int (nI (6 * k)))] [] W0 := by
  obtain ⟨ro1, ro2, S, lv, v, a, b, bv, tv, ta, tb, uv, ua, ub, rv, ra, rb, rt9, se, pv, pa, gv, ga, ov, oa, qv, qa, hv, ha, nv, na, yv, ya, cf, cs, h1, h2, hc1, hc2, hdis, iv⟩ := hI
  have hdi2 : ∀ j, j ∈ ro1 → j ∉ ro2 := fun j h w => hdis j w h
  have hs := iv.tx.2.1
  have hr := iv.tx.2.2.1
  obtain ⟨u, np, hu, hnp, e61, e10, e11, hold⟩ := iv.un
  have h5 := hs.2.1
  have h6 := hs.1
  refine XG.blk tL_law_ok 320 1 (pc' := 555) (pl' := [some (.ref 1000), some (.ref 0), some (.ref 82), some (.int (nI (6 * k)))]) (st' := [(.ref 0)]) (W1 := _) (bs := []) rfl rfl rfl ?_
  refine XG.callV (ro := ro1) (W1 := (sW bv tv ta tb uv ua ub rv ra rb (px_tr (px_f [31, 32, 33, 34, 35, 36, 16, 17, 18, 19, 20, 21, 22, 23, 24, 25, 26, 27, 28, 29, 30, 1, 2, 3, 4, 5, 6, 7, 8, 9, 10, 11, 12, 13, 14, 15]) rt9) se pv pa gv ga ov oa qv qa hv ha nv na yv ya cf cs)) (rest := []) eL_law_555 kl_L_75 (cs_undo 100 bv tv ta tb uv ua ub rv ra rb (px_tr (px_f [31, 32, 33, 34, 35, 36, 16, 17, 18, 19, 20, 21, 22, 23, 24, 25, 26, 27, 28, 29, 30, 1, 2, 3, 4, 5, 6, 7, 8, 9, 10, 11, 12, 13, 14, 15]) rt9) se pv pa gv ga ov oa qv qa hv ha nv na yv ya cf cs np u hnp hu e11 e10 (by decide)) fitL rfl h1 rfl (by rw [hc1]; rfl) (Nat.le_of_ble_eq_true rfl) (fun r9 W9 hp9 hl9 => ?_)
  have h1b := sub_pt h1 hl9
  have h2b := sub_pt2 (ro := ro1) (W1 := W9) h2 hdis
  revert h1b h2b
  generalize px_pt (px_f ro1) ro1 W9 W0 = W2
  intro h1b h2b
  rcases hp9 with ⟨g9, rfl, rfl⟩ | ⟨g9, nv9, na9, rfl, hE, rfl⟩
  · skip
    show XG _ _ _ _ 558 [some (.ref 1000), some (.ref 0), some (.ref 82), some (.int (nI (6 * k)))] [(.int 0)] _
    refine XG.blk tL_law_ok 322 1 (pc' := 559) (pl' := [some (.ref 1000), some (.ref 0), some (.ref 82), some (.int (nI (6 * k)))]) (st' := [(.ref 82), (.int 0)]) (W1 := _) (bs := []) rfl rfl rfl ?_
    refine XG.callV (ro := ro2) (W1 := (mW v a b)) (rest := [(.int 0)]) eL_law_559 kl_L_79 (con_undo 100 v a b u e61 hu) fitL rfl h2b rfl (by rw [hc2]; rfl) (Nat.le_of_ble_eq_true rfl) (fun r8 W8 hp8 hl8 => ?_)
    have h1c := sub_pt2 (ro := ro2) (W1 := W8) h1b hdi2
    have h2c := sub_pt h2b hl8
    revert h1c h2c
    generalize px_pt (px_f ro2) ro2 W8 W2 = W3
    intro h1c h2c
    rcases hp8 with ⟨g8, rfl, rfl⟩ | ⟨g8, rfl, rfl⟩
    · skip
      show XG _ _ _ _ 562 [some (.ref 1000), some (.ref 0), some (.ref 82), some (.int (nI (6 * k)))] [(.int 0), (.int 0)] _
      refine XG.br eL_law_562 (P := 0 = 0) (r := []) rfl (tgt := 1021) (by decide) (fun _ => kk _ ⟨ro1, ro2, S, lv, _, _, _, _, _, _, _, _, _, _, _, _, _, _, _, _, _, _, _, _, _, _, _, _, _, _, _, _, _, _, _, h1c, h2c, hc1, hc2, hdis, iv.mono (by omega)⟩) (fun h => absurd (rfl) h)
    · skip
      exact absurd g9 (by omega)
  · skip
    show XG _ _ _ _ 558 [some (.ref 1000), some (.ref 0), some (.ref 82), some (.int (nI (6 * k)))] [(.int 1)] _
    refine XG.blk tL_law_ok 322 1 (pc' := 559) (pl' := [some (.ref 1000), some (.ref 0), some (.ref 82), some (.int (nI (6 * k)))]) (st' := [(.ref 82), (.int 1)]) (W1 := _) (bs := []) rfl rfl rfl ?_
    refine XG.callV (ro := ro2) (W1 := (mW v a b)) (rest := [(.int 1)]) eL_law_559 kl_L_79 (con_undo 100 v a b u e61 hu) fitL rfl h2b rfl (by rw [hc2]; rfl) (Nat.le_of_ble_eq_true rfl) (fun r8 W8 hp8 hl8 => ?_)
    have h1c := sub_pt2 (ro := ro2) (W1 := W8) h1b hdi2
    have h2c := sub_pt h2b hl8
    revert h1c h2c
    generalize px_pt (px_f ro2) ro2 W8 W2 = W3
    intro h1c h2c
    rcases hp8 with ⟨g8, rfl, rfl⟩ | ⟨g8, rfl, rfl⟩
    · skip
      exact absurd g9 (by omega)
    · skip
      show XG _ _ _ _ 562 [some (.ref 1000), some (.ref 0), some (.ref 82), some (.int (nI (6 * k)))] [(.int 1), (.int 1)] _
      refine XG.br eL_law_562 (P := 1 = 1) (r := []) rfl (tgt := 1021) (by decide) (fun _ => kk _ ⟨ro1, ro2, S, lv, _, _, _, _, _, _, _, _, _, _, _, _, _, _, _, _, _, _, _, _, _, _, _, _, _, _, _, _, _, _, _, h1c, h2c, hc1, hc2, hdis, (iv.undo hu g9 hnp hold hE).mono (by omega)⟩) (fun h => absurd (rfl) h)
set_option maxRecDepth 100000 in
set_option maxHeartbeats 1000000 in
theorem lc_hold {L : Nat} {xs : Nat → Int32} (hL : L ≤ 3072) (k : Nat) (hk : 6 * k + 6 ≤ L) (W0 : px_W) (hI : LI (24 * k) W0) (kk : ∀ W1, LI (24 * k + 24) W1 → XG mL_law (px_gL L xs) 131 22130 1021 [some (.ref 1000), some (.ref 0), some (.ref 82), some (.int (nI (6 * k)))] [] W1) : XG mL_law (px_gL L xs) 131 22130 952 [some (.ref 1000), some (.ref 0), some (.ref 82), some (.int (nI (6 * k)))] [] W0 := by
  obtain ⟨ro1, ro2, S, lv, v, a, b, bv, tv, ta, tb, uv, ua, ub, rv, ra, rb, rt9, se, pv, pa, gv, ga, ov, oa, qv, qa, hv, ha, nv, na, yv, ya, cf, cs, h1, h2, hc1, hc2, hdis, iv⟩ := hI
  have hdi2 : ∀ j, j ∈ ro1 → j ∉ ro2 := fun j h w => hdis j w h
  have hs := iv.tx.2.1
  have hr := iv.tx.2.2.1
  obtain ⟨f9, hf8, hb12, h73, h74⟩ := iv.sl
  refine XG.blk tL_law_ok 626 5 (pc' := 957) (pl' := [some (.ref 1000), some (.ref 0), some (.ref 82), some (.int (nI (6 * k)))]) (st' := [(.int (nI (6 * k) + nI 1)), (.ref 1000), (.ref 0)]) (W1 := _) (bs := []) rfl rfl rfl ?_
  rw [show nI (6 * k) + nI 1 = nI (6 * k + 1) from px_eadd rfl rfl]
  refine XG.sldL (j := 6 * k + 1) (by omega) hL dL_957 ?_
  refine XG.callV (ro := ro1) (W1 := (sW bv tv ta tb uv ua ub rv ra rb (px_tr (px_f [31, 32, 33, 34, 35, 36, 16, 17, 18, 19, 20, 21, 22, 23, 24, 25, 26, 27, 28, 29, 30, 1, 2, 3, 4, 5, 6, 7, 8, 9, 10, 11, 12, 13, 14, 15]) rt9) se pv pa gv ga ov oa qv qa hv ha nv na yv ya cf cs)) (rest := []) eL_law_958 kl_L_134 (cs_hold 100 bv tv ta tb uv ua ub rv ra rb (px_tr (px_f [31, 32, 33, 34, 35, 36, 16, 17, 18, 19, 20, 21, 22, 23, 24, 25, 26, 27, 28, 29, 30, 1, 2, 3, 4, 5, 6, 7, 8, 9, 10, 11, 12, 13, 14, 15]) rt9) se pv pa gv ga ov oa qv qa hv ha nv na yv ya cf cs f9 hb12 hf8 (xs (6 * k + 1)) (by decide)) fitL rfl h1 rfl (by rw [hc1]; rfl) (Nat.le_of_ble_eq_true rfl) (fun r9 W9 hp9 hl9 => ?_)
  have h1b := sub_pt h1 hl9
  have h2b := sub_pt2 (ro := ro1) (W1 := W9) h2 hdis
  revert h1b h2b
  generalize px_pt (px_f ro1) ro1 W9 W0 = W2
  intro h1b h2b
  rcases hp9 with ⟨hC, rfl, rfl⟩ | ⟨hC, rfl, rfl⟩
  · skip
    show XG _ _ _ _ 961 [some (.ref 1000), some (.ref 0), some (.ref 82), some (.int (nI (6 * k)))] [(.int 0)] _
    refine XG.blk tL_law_ok 633 5 (pc' := 966) (pl' := [some (.ref 1000), some (.ref 0), some (.ref 82), some (.int (nI (6 * k)))]) (st' := [(.int (nI (6 * k) + nI 1)), (.ref 1000), (.ref 82), (.int 0)]) (W1 := _) (bs := []) rfl rfl rfl ?_
    rw [show nI (6 * k) + nI 1 = nI (6 * k + 1) from px_eadd rfl rfl]
    refine XG.sldL (j := 6 * k + 1) (by omega) hL dL_966 ?_
    refine XG.callV (ro := ro2) (W1 := (mW v a b)) (rest := [(.int 0)]) eL_law_967 kl_L_137 (con_hold 100 v a b (xs (6 * k + 1)) (by decide)) fitL rfl h2b rfl (by rw [hc2]; rfl) (Nat.le_of_ble_eq_true rfl) (fun r8 W8 hp8 hl8 => ?_)
    have h1c := sub_pt2 (ro := ro2) (W1 := W8) h1b hdi2
    have h2c := sub_pt h2b hl8
    revert h1c h2c
    generalize px_pt (px_f ro2) ro2 W8 W2 = W3
    intro h1c h2c
    rcases hp8 with ⟨hD, rfl, rfl⟩ | ⟨hD, rfl, rfl⟩
    · skip
      show XG _ _ _ _ 970 [some (.ref 1000), some (.ref 0), some (.ref 82), some (.int (nI (6 * k)))] [(.int 0), (.int 0)] _
      refine XG.br eL_law_970 (P := 0 = 0) (r := []) rfl (tgt := 1021) (by decide) (fun _ => kk _ ⟨ro1, ro2, S, lv, _, _, _, _, _, _, _, _, _, _, _, _, _, _, _, _, _, _, _, _, _, _, _, _, _, _, _, _, _, _, _, h1c, h2c, hc1, hc2, hdis, iv.mono (by omega)⟩) (fun h => absurd (rfl) h)
    · skip
      exact absurd hD hC
  · skip
    show XG _ _ _ _ 961 [some (.ref 1000), some (.ref 0), some (.ref 82), some (.int (nI (6 * k)))] [(.int 1)] _
    refine XG.blk tL_law_ok 633 5 (pc' := 966) (pl' := [some (.ref 1000), some (.ref 0), some (.ref 82), some (.int (nI (6 * k)))]) (st' := [(.int (nI (6 * k) + nI 1)), (.ref 1000), (.ref 82), (.int 1)]) (W1 := _) (bs := []) rfl rfl rfl ?_
    rw [show nI (6 * k) + nI 1 = nI (6 * k + 1) from px_eadd rfl rfl]
    refine XG.sldL (j := 6 * k + 1) (by omega) hL dL_966 ?_
    refine XG.callV (ro := ro2) (W1 := (mW v a b)) (rest := [(.int 1)]) eL_law_967 kl_L_137 (con_hold 100 v a b (xs (6 * k + 1)) (by decide)) fitL rfl h2b rfl (by rw [hc2]; rfl) (Nat.le_of_ble_eq_true rfl) (fun r8 W8 hp8 hl8 => ?_)
    have h1c := sub_pt2 (ro := ro2) (W1 := W8) h1b hdi2
    have h2c := sub_pt h2b hl8
    revert h1c h2c
    generalize px_pt (px_f ro2) ro2 W8 W2 = W3
    intro h1c h2c
    rcases hp8 with ⟨hD, rfl, rfl⟩ | ⟨hD, rfl, rfl⟩
    · skip
      exact absurd hC hD
    · skip
      show XG _ _ _ _ 970 [some (.ref 1000), some (.ref 0), some (.ref 82), some (.int (nI (6 * k)))] [(.int 1), (.int 1)] _
      refine XG.br eL_law_970 (P := 1 = 1) (r := []) rfl (tgt := 1021) (by decide) (fun _ => kk _ ⟨ro1, ro2, S, lv, _, _, _, _, _, _, _, _, _, _, _, _, _, _, _, _, _, _, _, _, _, _, _, _, _, _, _, _, _, _, _, h1c, h2c, hc1, hc2, hdis, (iv.hold hf8 (vb_cl (by omega) hC) h73 h74).mono (by omega)⟩) (fun h => absurd (rfl) h)
set_option maxRecDepth 100000 in
set_option maxHeartbeats 1000000 in
theorem lc_restore {L : Nat} {xs : Nat → Int32} (hL : L ≤ 3072) (k : Nat) (hk : 6 * k + 6 ≤ L) (W0 : px_W) (hI : LI (24 * k) W0) (kk : ∀ W1, LI (24 * k + 24) W1 → XG mL_law (px_gL L xs) 131 22130 1021 [some (.ref 1000), some (.ref 0), some (.ref 82), some (.int (nI (6 * k)))] [] W1) : XG mL_law (px_gL L xs) 131 22130 975 [some (.ref 1000), some (.ref 0), some (.ref 82), some (.int (nI (6 * k)))] [] W0 := by
  obtain ⟨ro1, ro2, S, lv, v, a, b, bv, tv, ta, tb, uv, ua, ub, rv, ra, rb, rt9, se, pv, pa, gv, ga, ov, oa, qv, qa, hv, ha, nv, na, yv, ya, cf, cs, h1, h2, hc1, hc2, hdis, iv⟩ := hI
  have hdi2 : ∀ j, j ∈ ro1 → j ∉ ro2 := fun j h w => hdis j w h
  have hs := iv.tx.2.1
  have hr := iv.tx.2.2.1
  obtain ⟨f9, hf8, hb12, h73, h74⟩ := iv.sl
  refine XG.blk tL_law_ok 643 5 (pc' := 980) (pl' := [some (.ref 1000), some (.ref 0), some (.ref 82), some (.int (nI (6 * k)))]) (st' := [(.int (nI (6 * k) + nI 1)), (.ref 1000), (.ref 0)]) (W1 := _) (bs := []) rfl rfl rfl ?_
  rw [show nI (6 * k) + nI 1 = nI (6 * k + 1) from px_eadd rfl rfl]
  refine XG.sldL (j := 6 * k + 1) (by omega) hL dL_980 ?_
  refine XG.callV (ro := ro1) (W1 := (sW bv tv ta tb uv ua ub rv ra rb (px_tr (px_f [31, 32, 33, 34, 35, 36, 16, 17, 18, 19, 20, 21, 22, 23, 24, 25, 26, 27, 28, 29, 30, 1, 2, 3, 4, 5, 6, 7, 8, 9, 10, 11, 12, 13, 14, 15]) rt9) se pv pa gv ga ov oa qv qa hv ha nv na yv ya cf cs)) (rest := []) eL_law_981 kl_L_138 (cs_restore 100 bv tv ta tb uv ua ub rv ra rb (px_tr (px_f [31, 32, 33, 34, 35, 36, 16, 17, 18, 19, 20, 21, 22, 23, 24, 25, 26, 27, 28, 29, 30, 1, 2, 3, 4, 5, 6, 7, 8, 9, 10, 11, 12, 13, 14, 15]) rt9) se pv pa gv ga ov oa qv qa hv ha nv na yv ya cf cs f9 hb12 hf8 (xs (6 * k + 1)) (by decide)) fitL rfl h1 rfl (by rw [hc1]; rfl) (Nat.le_of_ble_eq_true rfl) (fun r9 W9 hp9 hl9 => ?_)
  have h1b := sub_pt h1 hl9
  have h2b := sub_pt2 (ro := ro1) (W1 := W9) h2 hdis
  revert h1b h2b
  generalize px_pt (px_f ro1) ro1 W9 W0 = W2
  intro h1b h2b
  rcases hp9 with ⟨hC, rfl, rfl⟩ | ⟨hC, nv9, na9, rfl, hE, rfl⟩
  · skip
    show XG _ _ _ _ 984 [some (.ref 1000), some (.ref 0), some (.ref 82), some (.int (nI (6 * k)))] [(.int 0)] _
    refine XG.blk tL_law_ok 650 5 (pc' := 989) (pl' := [some (.ref 1000), some (.ref 0), some (.ref 82), some (.int (nI (6 * k)))]) (st' := [(.int (nI (6 * k) + nI 1)), (.ref 1000), (.ref 82), (.int 0)]) (W1 := _) (bs := []) rfl rfl rfl ?_
    rw [show nI (6 * k) + nI 1 = nI (6 * k + 1) from px_eadd rfl rfl]
    refine XG.sldL (j := 6 * k + 1) (by omega) hL dL_989 ?_
    refine XG.callV (ro := ro2) (W1 := (mW v a b)) (rest := [(.int 0)]) eL_law_990 kl_L_141 (con_restore 100 v a b (xs (6 * k + 1)) (by decide)) fitL rfl h2b rfl (by rw [hc2]; rfl) (Nat.le_of_ble_eq_true rfl) (fun r8 W8 hp8 hl8 => ?_)
    have h1c := sub_pt2 (ro := ro2) (W1 := W8) h1b hdi2
    have h2c := sub_pt h2b hl8
    revert h1c h2c
    generalize px_pt (px_f ro2) ro2 W8 W2 = W3
    intro h1c h2c
    rcases hp8 with ⟨hD, rfl, rfl⟩ | ⟨hD, rfl, rfl⟩
    · skip
      show XG _ _ _ _ 993 [some (.ref 1000), some (.ref 0), some (.ref 82), some (.int (nI (6 * k)))] [(.int 0), (.int 0)] _
      refine XG.br eL_law_993 (P := 0 = 0) (r := []) rfl (tgt := 1021) (by decide) (fun _ => kk _ ⟨ro1, ro2, S, lv, _, _, _, _, _, _, _, _, _, _, _, _, _, _, _, _, _, _, _, _, _, _, _, _, _, _, _, _, _, _, _, h1c, h2c, hc1, hc2, hdis, iv.mono (by omega)⟩) (fun h => absurd (rfl) h)
    · skip
      exact absurd ⟨hD.1, (bit73 (vb_cl (by omega) hD.1) h73).mpr hD.2⟩ hC
  · skip
    show XG _ _ _ _ 984 [some (.ref 1000), some (.ref 0), some (.ref 82), some (.int (nI (6 * k)))] [(.int 1)] _
    refine XG.blk tL_law_ok 650 5 (pc' := 989) (pl' := [some (.ref 1000), some (.ref 0), some (.ref 82), some (.int (nI (6 * k)))]) (st' := [(.int (nI (6 * k) + nI 1)), (.ref 1000), (.ref 82), (.int 1)]) (W1 := _) (bs := []) rfl rfl rfl ?_
    rw [show nI (6 * k) + nI 1 = nI (6 * k + 1) from px_eadd rfl rfl]
    refine XG.sldL (j := 6 * k + 1) (by omega) hL dL_989 ?_
    refine XG.callV (ro := ro2) (W1 := (mW v a b)) (rest := [(.int 1)]) eL_law_990 kl_L_141 (con_restore 100 v a b (xs (6 * k + 1)) (by decide)) fitL rfl h2b rfl (by rw [hc2]; rfl) (Nat.le_of_ble_eq_true rfl) (fun r8 W8 hp8 hl8 => ?_)
    have h1c := sub_pt2 (ro := ro2) (W1 := W8) h1b hdi2
    have h2c := sub_pt h2b hl8
    revert h1c h2c
    generalize px_pt (px_f ro2) ro2 W8 W2 = W3
    intro h1c h2c
    rcases hp8 with ⟨hD, rfl, rfl⟩ | ⟨hD, rfl, rfl⟩
    · skip
      exact absurd ⟨hC.1, (bit73 (vb_cl (by omega) hC.1) h73).mp hC.2⟩ hD
    · skip
      show XG _ _ _ _ 993 [some (.ref 1000), some (.ref 0), some (.ref 82), some (.int (nI (6 * k)))] [(.int 1), (.int 1)] _
      refine XG.br eL_law_993 (P := 1 = 1) (r := []) rfl (tgt := 1021) (by decide) (fun _ => kk _ ⟨ro1, ro2, S, lv, _, _, _, _, _, _, _, _, _, _, _, _, _, _, _, _, _, _, _, _, _, _, _, _, _, _, _, _, _, _, _, h1c, h2c, hc1, hc2, hdis, (iv.restore (h74 _ (vb_cl (by omega) hC.1) hC.2) hE).mono (by omega)⟩) (fun h => absurd (rfl) h)
