/-! THE LAW: what only looks -/
set_option maxRecDepth 100000 in
set_option maxHeartbeats 1000000 in
theorem lc_sleeper {L : Nat} {xs : Nat → Int32} (hL : L ≤ 3072) (k : Nat) (hk : 6 * k + 6 ≤ L) (W0 : px_W) (hI : LI (24 * k) W0) (kk : ∀ W1, LI (24 * k + 24) W1 → XG mL_law (px_gL L xs) 131 22130 1021 [some (.ref 1000), some (.ref 0), some (.ref 82), some (.int (nI (6 * k)))] [] W1) : XG mL_law (px_gL L xs) 131 22130 284 [some (.ref 1000), some (.ref 0), some (.ref 82), some (.int (nI (6 * k)))] [] W0 := by
  obtain ⟨ro1, ro2, S, lv, v, a, b, bv, tv, ta, tb, uv, ua, ub, rv, ra, rb, rt9, se, pv, pa, gv, ga, ov, oa, qv, qa, hv, ha, nv, na, yv, ya, cf, cs, h1, h2, hc1, hc2, hdis, iv⟩ := hI
  have hdi2 : ∀ j, j ∈ ro1 → j ∉ ro2 := fun j h w => hdis j w h
  have hs := iv.tx.2.1
  have hr := iv.tx.2.2.1
  refine XG.blk tL_law_ok 110 5 (pc' := 289) (pl' := [some (.ref 1000), some (.ref 0), some (.ref 82), some (.int (nI (6 * k)))]) (st' := [(.int (nI (6 * k) + nI 1)), (.ref 1000), (.ref 0)]) (W1 := _) (bs := []) rfl rfl rfl ?_
  rw [show nI (6 * k) + nI 1 = nI (6 * k + 1) from px_eadd rfl rfl]
  refine XG.sldL (j := 6 * k + 1) (by omega) hL dL_289 ?_
  refine XG.blk tL_law_ok 116 4 (pc' := 294) (pl' := [some (.ref 1000), some (.ref 0), some (.ref 82), some (.int (nI (6 * k)))]) (st' := [(.int (nI (6 * k) + nI 2)), (.ref 1000), (.int (xs (6 * k + 1))), (.ref 0)]) (W1 := _) (bs := []) rfl rfl rfl ?_
  rw [show nI (6 * k) + nI 2 = nI (6 * k + 2) from px_eadd rfl rfl]
  refine XG.sldL (j := 6 * k + 2) (by omega) hL dL_294 ?_
  refine XG.callV (ro := ro1) (W1 := (sW bv tv ta tb uv ua ub rv ra rb (px_tr (px_f [31, 32, 33, 34, 35, 36, 16, 17, 18, 19, 20, 21, 22, 23, 24, 25, 26, 27, 28, 29, 30, 1, 2, 3, 4, 5, 6, 7, 8, 9, 10, 11, 12, 13, 14, 15]) rt9) se pv pa gv ga ov oa qv qa hv ha nv na yv ya cf cs)) (rest := []) eL_law_295 kl_L_32 (cs_sleeper 100 bv tv ta tb uv ua ub rv ra rb (px_tr (px_f [31, 32, 33, 34, 35, 36, 16, 17, 18, 19, 20, 21, 22, 23, 24, 25, 26, 27, 28, 29, 30, 1, 2, 3, 4, 5, 6, 7, 8, 9, 10, 11, 12, 13, 14, 15]) rt9) se pv pa gv ga ov oa qv qa hv ha nv na yv ya cf cs S lv a iv.tx.q iv.nt (xs (6 * k + 1)) (xs (6 * k + 2)) (by decide)) fitL rfl h1 rfl (by rw [hc1]; rfl) (Nat.le_of_ble_eq_true rfl) (fun r9 W9 hp9 hl9 => ?_)
  have h1b := sub_pt h1 hl9
  have h2b := sub_pt2 (ro := ro1) (W1 := W9) h2 hdis
  revert h1b h2b
  generalize px_pt (px_f ro1) ro1 W9 W0 = W2
  intro h1b h2b
  obtain ⟨se9, ta9, rfl, hch, rfl⟩ := hp9
  show XG _ _ _ _ 298 [some (.ref 1000), some (.ref 0), some (.ref 82), some (.int (nI (6 * k)))] [(.int (ansB (xs (6 * k + 1)) (S.1 24) (fun x => qSleeper a lv (S.1 24) (S.1 31) x (xs (6 * k + 2))) (-1)))] _
  refine XG.blk tL_law_ok 122 5 (pc' := 303) (pl' := [some (.ref 1000), some (.ref 0), some (.ref 82), some (.int (nI (6 * k)))]) (st' := [(.int (nI (6 * k) + nI 1)), (.ref 1000), (.ref 82), (.int (ansB (xs (6 * k + 1)) (S.1 24) (fun x => qSleeper a lv (S.1 24) (S.1 31) x (xs (6 * k + 2))) (-1)))]) (W1 := _) (bs := []) rfl rfl rfl ?_
  rw [show nI (6 * k) + nI 1 = nI (6 * k + 1) from px_eadd rfl rfl]
  refine XG.sldL (j := 6 * k + 1) (by omega) hL dL_303 ?_
  refine XG.blk tL_law_ok 128 4 (pc' := 308) (pl' := [some (.ref 1000), some (.ref 0), some (.ref 82), some (.int (nI (6 * k)))]) (st' := [(.int (nI (6 * k) + nI 2)), (.ref 1000), (.int (xs (6 * k + 1))), (.ref 82), (.int (ansB (xs (6 * k + 1)) (S.1 24) (fun x => qSleeper a lv (S.1 24) (S.1 31) x (xs (6 * k + 2))) (-1)))]) (W1 := _) (bs := []) rfl rfl rfl ?_
  rw [show nI (6 * k) + nI 2 = nI (6 * k + 2) from px_eadd rfl rfl]
  refine XG.sldL (j := 6 * k + 2) (by omega) hL dL_308 ?_
  refine XG.callV (ro := ro2) (W1 := (mW v a b)) (rest := [(.int (ansB (xs (6 * k + 1)) (S.1 24) (fun x => qSleeper a lv (S.1 24) (S.1 31) x (xs (6 * k + 2))) (-1)))]) eL_law_309 kl_L_36 (con_sleeper 100 v a b lv (S.1 23) (S.1 24) (S.1 31) iv.mi iv.wf (xs (6 * k + 1)) (xs (6 * k + 2)) (by decide)) fitL rfl h2b rfl (by rw [hc2]; rfl) (Nat.le_of_ble_eq_true rfl) (fun r8 W8 hp8 hl8 => ?_)
  have h1c := sub_pt2 (ro := ro2) (W1 := W8) h1b hdi2
  have h2c := sub_pt h2b hl8
  revert h1c h2c
  generalize px_pt (px_f ro2) ro2 W8 W2 = W3
  intro h1c h2c
  obtain ⟨v9, a9, rfl, hQ, rfl⟩ := hp8
  show XG _ _ _ _ 312 [some (.ref 1000), some (.ref 0), some (.ref 82), some (.int (nI (6 * k)))] [(.int (ansB (xs (6 * k + 1)) (S.1 24) (fun x => qSleeper a lv (S.1 24) (S.1 31) x (xs (6 * k + 2))) (-1))), (.int (ansB (xs (6 * k + 1)) (S.1 24) (fun x => qSleeper a lv (S.1 24) (S.1 31) x (xs (6 * k + 2))) (-1)))] _
  refine XG.br eL_law_312 (P := (ansB (xs (6 * k + 1)) (S.1 24) (fun x => qSleeper a lv (S.1 24) (S.1 31) x (xs (6 * k + 2))) (-1)) = (ansB (xs (6 * k + 1)) (S.1 24) (fun x => qSleeper a lv (S.1 24) (S.1 31) x (xs (6 * k + 2))) (-1))) (r := []) rfl (tgt := 1021) (by decide) (fun _ => kk _ ⟨ro1, ro2, S, lv, _, _, _, _, _, _, _, _, _, _, _, _, _, _, _, _, _, _, _, _, _, _, _, _, _, _, _, _, _, _, _, h1c, h2c, hc1, hc2, hdis, ((iv.c22 hch).qs hQ).mono (by omega)⟩) (fun h => absurd (rfl) h)
set_option maxRecDepth 100000 in
set_option maxHeartbeats 1000000 in
theorem lc_crosser {L : Nat} {xs : Nat → Int32} (hL : L ≤ 3072) (k : Nat) (hk : 6 * k + 6 ≤ L) (W0 : px_W) (hI : LI (24 * k) W0) (kk : ∀ W1, LI (24 * k + 24) W1 → XG mL_law (px_gL L xs) 131 22130 1021 [some (.ref 1000), some (.ref 0), some (.ref 82), some (.int (nI (6 * k)))] [] W1) : XG mL_law (px_gL L xs) 131 22130 317 [some (.ref 1000), some (.ref 0), some (.ref 82), some (.int (nI (6 * k)))] [] W0 := by
  obtain ⟨ro1, ro2, S, lv, v, a, b, bv, tv, ta, tb, uv, ua, ub, rv, ra, rb, rt9, se, pv, pa, gv, ga, ov, oa, qv, qa, hv, ha, nv, na, yv, ya, cf, cs, h1, h2, hc1, hc2, hdis, iv⟩ := hI
  have hdi2 : ∀ j, j ∈ ro1 → j ∉ ro2 := fun j h w => hdis j w h
  have hs := iv.tx.2.1
  have hr := iv.tx.2.2.1
  refine XG.blk tL_law_ok 137 5 (pc' := 322) (pl' := [some (.ref 1000), some (.ref 0), some (.ref 82), some (.int (nI (6 * k)))]) (st' := [(.int (nI (6 * k) + nI 1)), (.ref 1000), (.ref 0)]) (W1 := _) (bs := []) rfl rfl rfl ?_
  rw [show nI (6 * k) + nI 1 = nI (6 * k + 1) from px_eadd rfl rfl]
  refine XG.sldL (j := 6 * k + 1) (by omega) hL dL_322 ?_
  refine XG.blk tL_law_ok 143 4 (pc' := 327) (pl' := [some (.ref 1000), some (.ref 0), some (.ref 82), some (.int (nI (6 * k)))]) (st' := [(.int (nI (6 * k) + nI 2)), (.ref 1000), (.int (xs (6 * k + 1))), (.ref 0)]) (W1 := _) (bs := []) rfl rfl rfl ?_
  rw [show nI (6 * k) + nI 2 = nI (6 * k + 2) from px_eadd rfl rfl]
  refine XG.sldL (j := 6 * k + 2) (by omega) hL dL_327 ?_
  refine XG.callV (ro := ro1) (W1 := (sW bv tv ta tb uv ua ub rv ra rb (px_tr (px_f [31, 32, 33, 34, 35, 36, 16, 17, 18, 19, 20, 21, 22, 23, 24, 25, 26, 27, 28, 29, 30, 1, 2, 3, 4, 5, 6, 7, 8, 9, 10, 11, 12, 13, 14, 15]) rt9) se pv pa gv ga ov oa qv qa hv ha nv na yv ya cf cs)) (rest := []) eL_law_328 kl_L_37 (cs_crosser 100 bv tv ta tb uv ua ub rv ra rb (px_tr (px_f [31, 32, 33, 34, 35, 36, 16, 17, 18, 19, 20, 21, 22, 23, 24, 25, 26, 27, 28, 29, 30, 1, 2, 3, 4, 5, 6, 7, 8, 9, 10, 11, 12, 13, 14, 15]) rt9) se pv pa gv ga ov oa qv qa hv ha nv na yv ya cf cs S lv a iv.tx.q iv.nt (xs (6 * k + 1)) (xs (6 * k + 2)) (by decide)) fitL rfl h1 rfl (by rw [hc1]; rfl) (Nat.le_of_ble_eq_true rfl) (fun r9 W9 hp9 hl9 => ?_)
  have h1b := sub_pt h1 hl9
  have h2b := sub_pt2 (ro := ro1) (W1 := W9) h2 hdis
  revert h1b h2b
  generalize px_pt (px_f ro1) ro1 W9 W0 = W2
  intro h1b h2b
  obtain ⟨se9, ta9, rfl, hch, rfl⟩ := hp9
  show XG _ _ _ _ 331 [some (.ref 1000), some (.ref 0), some (.ref 82), some (.int (nI (6 * k)))] [(.int (ansB (xs (6 * k + 1)) (S.1 31) (fun x => qCrosser a lv x (xs (6 * k + 2))) (-1)))] _
  refine XG.blk tL_law_ok 149 5 (pc' := 336) (pl' := [some (.ref 1000), some (.ref 0), some (.ref 82), some (.int (nI (6 * k)))]) (st' := [(.int (nI (6 * k) + nI 1)), (.ref 1000), (.ref 82), (.int (ansB (xs (6 * k + 1)) (S.1 31) (fun x => qCrosser a lv x (xs (6 * k + 2))) (-1)))]) (W1 := _) (bs := []) rfl rfl rfl ?_
  rw [show nI (6 * k) + nI 1 = nI (6 * k + 1) from px_eadd rfl rfl]
  refine XG.sldL (j := 6 * k + 1) (by omega) hL dL_336 ?_
  refine XG.blk tL_law_ok 155 4 (pc' := 341) (pl' := [some (.ref 1000), some (.ref 0), some (.ref 82), some (.int (nI (6 * k)))]) (st' := [(.int (nI (6 * k) + nI 2)), (.ref 1000), (.int (xs (6 * k + 1))), (.ref 82), (.int (ansB (xs (6 * k + 1)) (S.1 31) (fun x => qCrosser a lv x (xs (6 * k + 2))) (-1)))]) (W1 := _) (bs := []) rfl rfl rfl ?_
  rw [show nI (6 * k) + nI 2 = nI (6 * k + 2) from px_eadd rfl rfl]
  refine XG.sldL (j := 6 * k + 2) (by omega) hL dL_341 ?_
  refine XG.callV (ro := ro2) (W1 := (mW v a b)) (rest := [(.int (ansB (xs (6 * k + 1)) (S.1 31) (fun x => qCrosser a lv x (xs (6 * k + 2))) (-1)))]) eL_law_342 kl_L_40 (con_crosser 100 v a b lv (S.1 23) (S.1 24) (S.1 31) iv.mi iv.wf (xs (6 * k + 1)) (xs (6 * k + 2)) (by decide)) fitL rfl h2b rfl (by rw [hc2]; rfl) (Nat.le_of_ble_eq_true rfl) (fun r8 W8 hp8 hl8 => ?_)
  have h1c := sub_pt2 (ro := ro2) (W1 := W8) h1b hdi2
  have h2c := sub_pt h2b hl8
  revert h1c h2c
  generalize px_pt (px_f ro2) ro2 W8 W2 = W3
  intro h1c h2c
  obtain ⟨v9, a9, rfl, hQ, rfl⟩ := hp8
  show XG _ _ _ _ 345 [some (.ref 1000), some (.ref 0), some (.ref 82), some (.int (nI (6 * k)))] [(.int (ansB (xs (6 * k + 1)) (S.1 31) (fun x => qCrosser a lv x (xs (6 * k + 2))) (-1))), (.int (ansB (xs (6 * k + 1)) (S.1 31) (fun x => qCrosser a lv x (xs (6 * k + 2))) (-1)))] _
  refine XG.br eL_law_345 (P := (ansB (xs (6 * k + 1)) (S.1 31) (fun x => qCrosser a lv x (xs (6 * k + 2))) (-1)) = (ansB (xs (6 * k + 1)) (S.1 31) (fun x => qCrosser a lv x (xs (6 * k + 2))) (-1))) (r := []) rfl (tgt := 1021) (by decide) (fun _ => kk _ ⟨ro1, ro2, S, lv, _, _, _, _, _, _, _, _, _, _, _, _, _, _, _, _, _, _, _, _, _, _, _, _, _, _, _, _, _, _, _, h1c, h2c, hc1, hc2, hdis, ((iv.c22 hch).qs hQ).mono (by omega)⟩) (fun h => absurd (rfl) h)
set_option maxRecDepth 100000 in
set_option maxHeartbeats 1000000 in
theorem lc_span {L : Nat} {xs : Nat → Int32} (hL : L ≤ 3072) (k : Nat) (hk : 6 * k + 6 ≤ L) (W0 : px_W) (hI : LI (24 * k) W0) (kk : ∀ W1, LI (24 * k + 24) W1 → XG mL_law (px_gL L xs) 131 22130 1021 [some (.ref 1000), some (.ref 0), some (.ref 82), some (.int (nI (6 * k)))] [] W1) : XG mL_law (px_gL L xs) 131 22130 350 [some (.ref 1000), some (.ref 0), some (.ref 82), some (.int (nI (6 * k)))] [] W0 := by
  obtain ⟨ro1, ro2, S, lv, v, a, b, bv, tv, ta, tb, uv, ua, ub, rv, ra, rb, rt9, se, pv, pa, gv, ga, ov, oa, qv, qa, hv, ha, nv, na, yv, ya, cf, cs, h1, h2, hc1, hc2, hdis, iv⟩ := hI
  have hdi2 : ∀ j, j ∈ ro1 → j ∉ ro2 := fun j h w => hdis j w h
  have hs := iv.tx.2.1
  have hr := iv.tx.2.2.1
  refine XG.blk tL_law_ok 164 5 (pc' := 355) (pl' := [some (.ref 1000), some (.ref 0), some (.ref 82), some (.int (nI (6 * k)))]) (st' := [(.int (nI (6 * k) + nI 1)), (.ref 1000), (.ref 0)]) (W1 := _) (bs := []) rfl rfl rfl ?_
  rw [show nI (6 * k) + nI 1 = nI (6 * k + 1) from px_eadd rfl rfl]
  refine XG.sldL (j := 6 * k + 1) (by omega) hL dL_355 ?_
  refine XG.blk tL_law_ok 170 4 (pc' := 360) (pl' := [some (.ref 1000), some (.ref 0), some (.ref 82), some (.int (nI (6 * k)))]) (st' := [(.int (nI (6 * k) + nI 2)), (.ref 1000), (.int (xs (6 * k + 1))), (.ref 0)]) (W1 := _) (bs := []) rfl rfl rfl ?_
  rw [show nI (6 * k) + nI 2 = nI (6 * k + 2) from px_eadd rfl rfl]
  refine XG.sldL (j := 6 * k + 2) (by omega) hL dL_360 ?_
  refine XG.callV (ro := ro1) (W1 := (sW bv tv ta tb uv ua ub rv ra rb (px_tr (px_f [31, 32, 33, 34, 35, 36, 16, 17, 18, 19, 20, 21, 22, 23, 24, 25, 26, 27, 28, 29, 30, 1, 2, 3, 4, 5, 6, 7, 8, 9, 10, 11, 12, 13, 14, 15]) rt9) se pv pa gv ga ov oa qv qa hv ha nv na yv ya cf cs)) (rest := []) eL_law_361 kl_L_41 (cs_span 100 bv tv ta tb uv ua ub rv ra rb (px_tr (px_f [31, 32, 33, 34, 35, 36, 16, 17, 18, 19, 20, 21, 22, 23, 24, 25, 26, 27, 28, 29, 30, 1, 2, 3, 4, 5, 6, 7, 8, 9, 10, 11, 12, 13, 14, 15]) rt9) se pv pa gv ga ov oa qv qa hv ha nv na yv ya cf cs S lv a iv.tx.q iv.nt (xs (6 * k + 1)) (xs (6 * k + 2)) (by decide)) fitL rfl h1 rfl (by rw [hc1]; rfl) (Nat.le_of_ble_eq_true rfl) (fun r9 W9 hp9 hl9 => ?_)
  have h1b := sub_pt h1 hl9
  have h2b := sub_pt2 (ro := ro1) (W1 := W9) h2 hdis
  revert h1b h2b
  generalize px_pt (px_f ro1) ro1 W9 W0 = W2
  intro h1b h2b
  obtain ⟨se9, ta9, rfl, hch, rfl⟩ := hp9
  show XG _ _ _ _ 364 [some (.ref 1000), some (.ref 0), some (.ref 82), some (.int (nI (6 * k)))] [(.int (ansB (xs (6 * k + 1)) (S.1 23) (fun x => qSpan a lv (S.1 24) (S.1 31) x (xs (6 * k + 2))) (-1)))] _
  refine XG.blk tL_law_ok 176 5 (pc' := 369) (pl' := [some (.ref 1000), some (.ref 0), some (.ref 82), some (.int (nI (6 * k)))]) (st' := [(.int (nI (6 * k) + nI 1)), (.ref 1000), (.ref 82), (.int (ansB (xs (6 * k + 1)) (S.1 23) (fun x => qSpan a lv (S.1 24) (S.1 31) x (xs (6 * k + 2))) (-1)))]) (W1 := _) (bs := []) rfl rfl rfl ?_
  rw [show nI (6 * k) + nI 1 = nI (6 * k + 1) from px_eadd rfl rfl]
  refine XG.sldL (j := 6 * k + 1) (by omega) hL dL_369 ?_
  refine XG.blk tL_law_ok 182 4 (pc' := 374) (pl' := [some (.ref 1000), some (.ref 0), some (.ref 82), some (.int (nI (6 * k)))]) (st' := [(.int (nI (6 * k) + nI 2)), (.ref 1000), (.int (xs (6 * k + 1))), (.ref 82), (.int (ansB (xs (6 * k + 1)) (S.1 23) (fun x => qSpan a lv (S.1 24) (S.1 31) x (xs (6 * k + 2))) (-1)))]) (W1 := _) (bs := []) rfl rfl rfl ?_
  rw [show nI (6 * k) + nI 2 = nI (6 * k + 2) from px_eadd rfl rfl]
  refine XG.sldL (j := 6 * k + 2) (by omega) hL dL_374 ?_
  refine XG.callV (ro := ro2) (W1 := (mW v a b)) (rest := [(.int (ansB (xs (6 * k + 1)) (S.1 23) (fun x => qSpan a lv (S.1 24) (S.1 31) x (xs (6 * k + 2))) (-1)))]) eL_law_375 kl_L_44 (con_span 100 v a b lv (S.1 23) (S.1 24) (S.1 31) iv.mi iv.wf (xs (6 * k + 1)) (xs (6 * k + 2)) (by decide)) fitL rfl h2b rfl (by rw [hc2]; rfl) (Nat.le_of_ble_eq_true rfl) (fun r8 W8 hp8 hl8 => ?_)
  have h1c := sub_pt2 (ro := ro2) (W1 := W8) h1b hdi2
  have h2c := sub_pt h2b hl8
  revert h1c h2c
  generalize px_pt (px_f ro2) ro2 W8 W2 = W3
  intro h1c h2c
  obtain ⟨v9, a9, rfl, hQ, rfl⟩ := hp8
  show XG _ _ _ _ 378 [some (.ref 1000), some (.ref 0), some (.ref 82), some (.int (nI (6 * k)))] [(.int (ansB (xs (6 * k + 1)) (S.1 23) (fun x => qSpan a lv (S.1 24) (S.1 31) x (xs (6 * k + 2))) (-1))), (.int (ansB (xs (6 * k + 1)) (S.1 23) (fun x => qSpan a lv (S.1 24) (S.1 31) x (xs (6 * k + 2))) (-1)))] _
  refine XG.br eL_law_378 (P := (ansB (xs (6 * k + 1)) (S.1 23) (fun x => qSpan a lv (S.1 24) (S.1 31) x (xs (6 * k + 2))) (-1)) = (ansB (xs (6 * k + 1)) (S.1 23) (fun x => qSpan a lv (S.1 24) (S.1 31) x (xs (6 * k + 2))) (-1))) (r := []) rfl (tgt := 1021) (by decide) (fun _ => kk _ ⟨ro1, ro2, S, lv, _, _, _, _, _, _, _, _, _, _, _, _, _, _, _, _, _, _, _, _, _, _, _, _, _, _, _, _, _, _, _, h1c, h2c, hc1, hc2, hdis, ((iv.c22 hch).qs hQ).mono (by omega)⟩) (fun h => absurd (rfl) h)
set_option maxRecDepth 100000 in
set_option maxHeartbeats 1000000 in
theorem lc_tells {L : Nat} {xs : Nat → Int32} (hL : L ≤ 3072) (k : Nat) (hk : 6 * k + 6 ≤ L) (W0 : px_W) (hI : LI (24 * k) W0) (kk : ∀ W1, LI (24 * k + 24) W1 → XG mL_law (px_gL L xs) 131 22130 1021 [some (.ref 1000), some (.ref 0), some (.ref 82), some (.int (nI (6 * k)))] [] W1) : XG mL_law (px_gL L xs) 131 22130 383 [some (.ref 1000), some (.ref 0), some (.ref 82), some (.int (nI (6 * k)))] [] W0 := by
  obtain ⟨ro1, ro2, S, lv, v, a, b, bv, tv, ta, tb, uv, ua, ub, rv, ra, rb, rt9, se, pv, pa, gv, ga, ov, oa, qv, qa, hv, ha, nv, na, yv, ya, cf, cs, h1, h2, hc1, hc2, hdis, iv⟩ := hI
  have hdi2 : ∀ j, j ∈ ro1 → j ∉ ro2 := fun j h w => hdis j w h
  have hs := iv.tx.2.1
  have hr := iv.tx.2.2.1
  refine XG.blk tL_law_ok 191 5 (pc' := 388) (pl' := [some (.ref 1000), some (.ref 0), some (.ref 82), some (.int (nI (6 * k)))]) (st' := [(.int (nI (6 * k) + nI 1)), (.ref 1000), (.ref 0)]) (W1 := _) (bs := []) rfl rfl rfl ?_
  rw [show nI (6 * k) + nI 1 = nI (6 * k + 1) from px_eadd rfl rfl]
  refine XG.sldL (j := 6 * k + 1) (by omega) hL dL_388 ?_
  refine XG.blk tL_law_ok 197 4 (pc' := 393) (pl' := [some (.ref 1000), some (.ref 0), some (.ref 82), some (.int (nI (6 * k)))]) (st' := [(.int (nI (6 * k) + nI 2)), (.ref 1000), (.int (xs (6 * k + 1))), (.ref 0)]) (W1 := _) (bs := []) rfl rfl rfl ?_
  rw [show nI (6 * k) + nI 2 = nI (6 * k + 2) from px_eadd rfl rfl]
  refine XG.sldL (j := 6 * k + 2) (by omega) hL dL_393 ?_
  refine XG.callV (ro := ro1) (W1 := (sW bv tv ta tb uv ua ub rv ra rb (px_tr (px_f [31, 32, 33, 34, 35, 36, 16, 17, 18, 19, 20, 21, 22, 23, 24, 25, 26, 27, 28, 29, 30, 1, 2, 3, 4, 5, 6, 7, 8, 9, 10, 11, 12, 13, 14, 15]) rt9) se pv pa gv ga ov oa qv qa hv ha nv na yv ya cf cs)) (rest := []) eL_law_394 kl_L_45 (cs_tells 100 bv tv ta tb uv ua ub rv ra rb (px_tr (px_f [31, 32, 33, 34, 35, 36, 16, 17, 18, 19, 20, 21, 22, 23, 24, 25, 26, 27, 28, 29, 30, 1, 2, 3, 4, 5, 6, 7, 8, 9, 10, 11, 12, 13, 14, 15]) rt9) se pv pa gv ga ov oa qv qa hv ha nv na yv ya cf cs S lv a iv.tx.q iv.nt (xs (6 * k + 1)) (xs (6 * k + 2)) (by decide)) fitL rfl h1 rfl (by rw [hc1]; rfl) (Nat.le_of_ble_eq_true rfl) (fun r9 W9 hp9 hl9 => ?_)
  have h1b := sub_pt h1 hl9
  have h2b := sub_pt2 (ro := ro1) (W1 := W9) h2 hdis
  revert h1b h2b
  generalize px_pt (px_f ro1) ro1 W9 W0 = W2
  intro h1b h2b
  obtain ⟨se9, ta9, rfl, hch, rfl⟩ := hp9
  show XG _ _ _ _ 397 [some (.ref 1000), some (.ref 0), some (.ref 82), some (.int (nI (6 * k)))] [(.int (ansB (xs (6 * k + 1)) (S.1 24) (fun x => qTells a lv (S.1 24) (S.1 31) x (xs (6 * k + 2))) (-100)))] _
  refine XG.blk tL_law_ok 203 5 (pc' := 402) (pl' := [some (.ref 1000), some (.ref 0), some (.ref 82), some (.int (nI (6 * k)))]) (st' := [(.int (nI (6 * k) + nI 1)), (.ref 1000), (.ref 82), (.int (ansB (xs (6 * k + 1)) (S.1 24) (fun x => qTells a lv (S.1 24) (S.1 31) x (xs (6 * k + 2))) (-100)))]) (W1 := _) (bs := []) rfl rfl rfl ?_
  rw [show nI (6 * k) + nI 1 = nI (6 * k + 1) from px_eadd rfl rfl]
  refine XG.sldL (j := 6 * k + 1) (by omega) hL dL_402 ?_
  refine XG.blk tL_law_ok 209 4 (pc' := 407) (pl' := [some (.ref 1000), some (.ref 0), some (.ref 82), some (.int (nI (6 * k)))]) (st' := [(.int (nI (6 * k) + nI 2)), (.ref 1000), (.int (xs (6 * k + 1))), (.ref 82), (.int (ansB (xs (6 * k + 1)) (S.1 24) (fun x => qTells a lv (S.1 24) (S.1 31) x (xs (6 * k + 2))) (-100)))]) (W1 := _) (bs := []) rfl rfl rfl ?_
  rw [show nI (6 * k) + nI 2 = nI (6 * k + 2) from px_eadd rfl rfl]
  refine XG.sldL (j := 6 * k + 2) (by omega) hL dL_407 ?_
  refine XG.callV (ro := ro2) (W1 := (mW v a b)) (rest := [(.int (ansB (xs (6 * k + 1)) (S.1 24) (fun x => qTells a lv (S.1 24) (S.1 31) x (xs (6 * k + 2))) (-100)))]) eL_law_408 kl_L_48 (con_tells 100 v a b lv (S.1 23) (S.1 24) (S.1 31) iv.mi iv.wf (xs (6 * k + 1)) (xs (6 * k + 2)) (by decide)) fitL rfl h2b rfl (by rw [hc2]; rfl) (Nat.le_of_ble_eq_true rfl) (fun r8 W8 hp8 hl8 => ?_)
  have h1c := sub_pt2 (ro := ro2) (W1 := W8) h1b hdi2
  have h2c := sub_pt h2b hl8
  revert h1c h2c
  generalize px_pt (px_f ro2) ro2 W8 W2 = W3
  intro h1c h2c
  obtain ⟨v9, a9, rfl, hQ, rfl⟩ := hp8
  show XG _ _ _ _ 411 [some (.ref 1000), some (.ref 0), some (.ref 82), some (.int (nI (6 * k)))] [(.int (ansB (xs (6 * k + 1)) (S.1 24) (fun x => qTells a lv (S.1 24) (S.1 31) x (xs (6 * k + 2))) (-100))), (.int (ansB (xs (6 * k + 1)) (S.1 24) (fun x => qTells a lv (S.1 24) (S.1 31) x (xs (6 * k + 2))) (-100)))] _
  refine XG.br eL_law_411 (P := (ansB (xs (6 * k + 1)) (S.1 24) (fun x => qTells a lv (S.1 24) (S.1 31) x (xs (6 * k + 2))) (-100)) = (ansB (xs (6 * k + 1)) (S.1 24) (fun x => qTells a lv (S.1 24) (S.1 31) x (xs (6 * k + 2))) (-100))) (r := []) rfl (tgt := 1021) (by decide) (fun _ => kk _ ⟨ro1, ro2, S, lv, _, _, _, _, _, _, _, _, _, _, _, _, _, _, _, _, _, _, _, _, _, _, _, _, _, _, _, _, _, _, _, h1c, h2c, hc1, hc2, hdis, ((iv.c22 hch).qs hQ).mono (by omega)⟩) (fun h => absurd (rfl) h)
set_option maxRecDepth 100000 in
set_option maxHeartbeats 1000000 in
theorem lc_dreams {L : Nat} {xs : Nat → Int32} (hL : L ≤ 3072) (k : Nat) (hk : 6 * k + 6 ≤ L) (W0 : px_W) (hI : LI (24 * k) W0) (kk : ∀ W1, LI (24 * k + 24) W1 → XG mL_law (px_gL L xs) 131 22130 1021 [some (.ref 1000), some (.ref 0), some (.ref 82), some (.int (nI (6 * k)))] [] W1) : XG mL_law (px_gL L xs) 131 22130 416 [some (.ref 1000), some (.ref 0), some (.ref 82), some (.int (nI (6 * k)))] [] W0 := by
  obtain ⟨ro1, ro2, S, lv, v, a, b, bv, tv, ta, tb, uv, ua, ub, rv, ra, rb, rt9, se, pv, pa, gv, ga, ov, oa, qv, qa, hv, ha, nv, na, yv, ya, cf, cs, h1, h2, hc1, hc2, hdis, iv⟩ := hI
  have hdi2 : ∀ j, j ∈ ro1 → j ∉ ro2 := fun j h w => hdis j w h
  have hs := iv.tx.2.1
  have hr := iv.tx.2.2.1
  refine XG.blk tL_law_ok 218 5 (pc' := 421) (pl' := [some (.ref 1000), some (.ref 0), some (.ref 82), some (.int (nI (6 * k)))]) (st' := [(.int (nI (6 * k) + nI 1)), (.ref 1000), (.ref 0)]) (W1 := _) (bs := []) rfl rfl rfl ?_
  rw [show nI (6 * k) + nI 1 = nI (6 * k + 1) from px_eadd rfl rfl]
  refine XG.sldL (j := 6 * k + 1) (by omega) hL dL_421 ?_
  refine XG.callV (ro := ro1) (W1 := (sW bv tv ta tb uv ua ub rv ra rb (px_tr (px_f [31, 32, 33, 34, 35, 36, 16, 17, 18, 19, 20, 21, 22, 23, 24, 25, 26, 27, 28, 29, 30, 1, 2, 3, 4, 5, 6, 7, 8, 9, 10, 11, 12, 13, 14, 15]) rt9) se pv pa gv ga ov oa qv qa hv ha nv na yv ya cf cs)) (rest := []) eL_law_422 kl_L_49 (cs_dreams 100 bv tv ta tb uv ua ub rv ra rb (px_tr (px_f [31, 32, 33, 34, 35, 36, 16, 17, 18, 19, 20, 21, 22, 23, 24, 25, 26, 27, 28, 29, 30, 1, 2, 3, 4, 5, 6, 7, 8, 9, 10, 11, 12, 13, 14, 15]) rt9) se pv pa gv ga ov oa qv qa hv ha nv na yv ya cf cs S lv a iv.tx.q iv.nt (xs (6 * k + 1)) (by decide)) fitL rfl h1 rfl (by rw [hc1]; rfl) (Nat.le_of_ble_eq_true rfl) (fun r9 W9 hp9 hl9 => ?_)
  have h1b := sub_pt h1 hl9
  have h2b := sub_pt2 (ro := ro1) (W1 := W9) h2 hdis
  revert h1b h2b
  generalize px_pt (px_f ro1) ro1 W9 W0 = W2
  intro h1b h2b
  obtain ⟨se9, ta9, rfl, hch, rfl⟩ := hp9
  show XG _ _ _ _ 425 [some (.ref 1000), some (.ref 0), some (.ref 82), some (.int (nI (6 * k)))] [(.int (ansB (xs (6 * k + 1)) (S.1 23) (fun x => itN (drO (a 54) (a 35 lv) (a 29) lv (nI x)) 0 (S.1 24)) (-1)))] _
  refine XG.blk tL_law_ok 225 5 (pc' := 430) (pl' := [some (.ref 1000), some (.ref 0), some (.ref 82), some (.int (nI (6 * k)))]) (st' := [(.int (nI (6 * k) + nI 1)), (.ref 1000), (.ref 82), (.int (ansB (xs (6 * k + 1)) (S.1 23) (fun x => itN (drO (a 54) (a 35 lv) (a 29) lv (nI x)) 0 (S.1 24)) (-1)))]) (W1 := _) (bs := []) rfl rfl rfl ?_
  rw [show nI (6 * k) + nI 1 = nI (6 * k + 1) from px_eadd rfl rfl]
  refine XG.sldL (j := 6 * k + 1) (by omega) hL dL_430 ?_
  refine XG.callV (ro := ro2) (W1 := (mW v a b)) (rest := [(.int (ansB (xs (6 * k + 1)) (S.1 23) (fun x => itN (drO (a 54) (a 35 lv) (a 29) lv (nI x)) 0 (S.1 24)) (-1)))]) eL_law_431 kl_L_52 (con_dreams 100 v a b lv (S.1 23) (S.1 24) (S.1 31) iv.mi iv.wf (xs (6 * k + 1)) (by decide)) fitL rfl h2b rfl (by rw [hc2]; rfl) (Nat.le_of_ble_eq_true rfl) (fun r8 W8 hp8 hl8 => ?_)
  have h1c := sub_pt2 (ro := ro2) (W1 := W8) h1b hdi2
  have h2c := sub_pt h2b hl8
  revert h1c h2c
  generalize px_pt (px_f ro2) ro2 W8 W2 = W3
  intro h1c h2c
  obtain ⟨v9, a9, rfl, hQ, rfl⟩ := hp8
  show XG _ _ _ _ 434 [some (.ref 1000), some (.ref 0), some (.ref 82), some (.int (nI (6 * k)))] [(.int (ansB (xs (6 * k + 1)) (S.1 23) (fun x => itN (drO (a 54) (a 35 lv) (a 29) lv (nI x)) 0 (S.1 24)) (-1))), (.int (ansB (xs (6 * k + 1)) (S.1 23) (fun x => itN (drO (a 54) (a 35 lv) (a 29) lv (nI x)) 0 (S.1 24)) (-1)))] _
  refine XG.br eL_law_434 (P := (ansB (xs (6 * k + 1)) (S.1 23) (fun x => itN (drO (a 54) (a 35 lv) (a 29) lv (nI x)) 0 (S.1 24)) (-1)) = (ansB (xs (6 * k + 1)) (S.1 23) (fun x => itN (drO (a 54) (a 35 lv) (a 29) lv (nI x)) 0 (S.1 24)) (-1))) (r := []) rfl (tgt := 1021) (by decide) (fun _ => kk _ ⟨ro1, ro2, S, lv, _, _, _, _, _, _, _, _, _, _, _, _, _, _, _, _, _, _, _, _, _, _, _, _, _, _, _, _, _, _, _, h1c, h2c, hc1, hc2, hdis, ((iv.c22 hch).qs hQ).mono (by omega)⟩) (fun h => absurd (rfl) h)
