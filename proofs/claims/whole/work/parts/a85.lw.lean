/-! THE LAW: plans, rumours, count, place -/
set_option maxRecDepth 100000 in
set_option maxHeartbeats 1000000 in
theorem lc_weakest {L : Nat} {xs : Nat → Int32} (hL : L ≤ 3072) (k : Nat) (hk : 6 * k + 6 ≤ L) (W0 : px_W) (hI : LI (24 * k) W0) (kk : ∀ W1, LI (24 * k + 24) W1 → XG mL_law (px_gL L xs) 131 22130 1021 [some (.ref 1000), some (.ref 0), some (.ref 82), some (.int (nI (6 * k)))] [] W1) : XG mL_law (px_gL L xs) 131 22130 636 [some (.ref 1000), some (.ref 0), some (.ref 82), some (.int (nI (6 * k)))] [] W0 := by
  obtain ⟨ro1, ro2, S, lv, v, a, b, bv, tv, ta, tb, uv, ua, ub, rv, ra, rb, rt9, se, pv, pa, gv, ga, ov, oa, qv, qa, hv, ha, nv, na, yv, ya, cf, cs, h1, h2, hc1, hc2, hdis, iv⟩ := hI
  have hdi2 : ∀ j, j ∈ ro1 → j ∉ ro2 := fun j h w => hdis j w h
  have hs := iv.tx.2.1
  have hr := iv.tx.2.2.1
  refine XG.blk tL_law_ok 382 5 (pc' := 641) (pl' := [some (.ref 1000), some (.ref 0), some (.ref 82), some (.int (nI (6 * k)))]) (st' := [(.int (nI (6 * k) + nI 1)), (.ref 1000), (.ref 0)]) (W1 := _) (bs := []) rfl rfl rfl ?_
  rw [show nI (6 * k) + nI 1 = nI (6 * k + 1) from px_eadd rfl rfl]
  refine XG.sldL (j := 6 * k + 1) (by omega) hL dL_641 ?_
  refine XG.callV (ro := ro1) (W1 := (sW bv tv ta tb uv ua ub rv ra rb (px_tr (px_f [31, 32, 33, 34, 35, 36, 16, 17, 18, 19, 20, 21, 22, 23, 24, 25, 26, 27, 28, 29, 30, 1, 2, 3, 4, 5, 6, 7, 8, 9, 10, 11, 12, 13, 14, 15]) rt9) se pv pa gv ga ov oa qv qa hv ha nv na yv ya cf cs)) (rest := []) eL_law_642 kl_L_85 (cs_weakest 100 bv tv ta tb uv ua ub rv ra rb (px_tr (px_f [31, 32, 33, 34, 35, 36, 16, 17, 18, 19, 20, 21, 22, 23, 24, 25, 26, 27, 28, 29, 30, 1, 2, 3, 4, 5, 6, 7, 8, 9, 10, 11, 12, 13, 14, 15]) rt9) se pv pa gv ga ov oa qv qa hv ha nv na yv ya cf cs S lv v a iv.tx.q iv.nt (xs (6 * k + 1)) (by decide)) fitL rfl h1 rfl (by rw [hc1]; rfl) (Nat.le_of_ble_eq_true rfl) (fun r9 W9 hp9 hl9 => ?_)
  have h1b := sub_pt h1 hl9
  have h2b := sub_pt2 (ro := ro1) (W1 := W9) h2 hdis
  revert h1b h2b
  generalize px_pt (px_f ro1) ro1 W9 W0 = W2
  intro h1b h2b
  obtain ⟨pv9, pa9, gv9, ga9, ov9, oa9, se9, ta9, rfl, hch, rfl⟩ := hp9
  show XG _ _ _ _ 645 [some (.ref 1000), some (.ref 0), some (.ref 82), some (.int (nI (6 * k)))] [(.int (qWeak (v 63) a lv (S.1 23) (S.1 24) (S.1 31) (xs (6 * k + 1))))] _
  refine XG.blk tL_law_ok 389 5 (pc' := 650) (pl' := [some (.ref 1000), some (.ref 0), some (.ref 82), some (.int (nI (6 * k)))]) (st' := [(.int (nI (6 * k) + nI 1)), (.ref 1000), (.ref 82), (.int (qWeak (v 63) a lv (S.1 23) (S.1 24) (S.1 31) (xs (6 * k + 1))))]) (W1 := _) (bs := []) rfl rfl rfl ?_
  rw [show nI (6 * k) + nI 1 = nI (6 * k + 1) from px_eadd rfl rfl]
  refine XG.sldL (j := 6 * k + 1) (by omega) hL dL_650 ?_
  refine XG.callV (ro := ro2) (W1 := (mW v a b)) (rest := [(.int (qWeak (v 63) a lv (S.1 23) (S.1 24) (S.1 31) (xs (6 * k + 1))))]) eL_law_651 kl_L_88 (con_weakest 100 v a b lv (S.1 23) (S.1 24) (S.1 31) iv.mi iv.wf (xs (6 * k + 1)) (by decide)) fitL rfl h2b rfl (by rw [hc2]; rfl) (Nat.le_of_ble_eq_true rfl) (fun r8 W8 hp8 hl8 => ?_)
  have h1c := sub_pt2 (ro := ro2) (W1 := W8) h1b hdi2
  have h2c := sub_pt h2b hl8
  revert h1c h2c
  generalize px_pt (px_f ro2) ro2 W8 W2 = W3
  intro h1c h2c
  obtain ⟨v9, a9, rfl, hQ, rfl⟩ := hp8
  show XG _ _ _ _ 654 [some (.ref 1000), some (.ref 0), some (.ref 82), some (.int (nI (6 * k)))] [(.int (qWeak (v 63) a lv (S.1 23) (S.1 24) (S.1 31) (xs (6 * k + 1)))), (.int (qWeak (v 63) a lv (S.1 23) (S.1 24) (S.1 31) (xs (6 * k + 1))))] _
  refine XG.br eL_law_654 (P := (qWeak (v 63) a lv (S.1 23) (S.1 24) (S.1 31) (xs (6 * k + 1))) = (qWeak (v 63) a lv (S.1 23) (S.1 24) (S.1 31) (xs (6 * k + 1)))) (r := []) rfl (tgt := 1021) (by decide) (fun _ => kk _ ⟨ro1, ro2, S, lv, _, _, _, _, _, _, _, _, _, _, _, _, _, _, _, _, _, _, _, _, _, _, _, _, _, _, _, _, _, _, _, h1c, h2c, hc1, hc2, hdis, ((iv.c22 hch).qs hQ).mono (by omega)⟩) (fun h => absurd (rfl) h)
set_option maxRecDepth 100000 in
set_option maxHeartbeats 1000000 in
theorem lc_better {L : Nat} {xs : Nat → Int32} (hL : L ≤ 3072) (k : Nat) (hk : 6 * k + 6 ≤ L) (W0 : px_W) (hI : LI (24 * k) W0) (kk : ∀ W1, LI (24 * k + 24) W1 → XG mL_law (px_gL L xs) 131 22130 1021 [some (.ref 1000), some (.ref 0), some (.ref 82), some (.int (nI (6 * k)))] [] W1) : XG mL_law (px_gL L xs) 131 22130 659 [some (.ref 1000), some (.ref 0), some (.ref 82), some (.int (nI (6 * k)))] [] W0 := by
  obtain ⟨ro1, ro2, S, lv, v, a, b, bv, tv, ta, tb, uv, ua, ub, rv, ra, rb, rt9, se, pv, pa, gv, ga, ov, oa, qv, qa, hv, ha, nv, na, yv, ya, cf, cs, h1, h2, hc1, hc2, hdis, iv⟩ := hI
  have hdi2 : ∀ j, j ∈ ro1 → j ∉ ro2 := fun j h w => hdis j w h
  have hs := iv.tx.2.1
  have hr := iv.tx.2.2.1
  refine XG.blk tL_law_ok 399 5 (pc' := 664) (pl' := [some (.ref 1000), some (.ref 0), some (.ref 82), some (.int (nI (6 * k)))]) (st' := [(.int (nI (6 * k) + nI 1)), (.ref 1000), (.ref 0)]) (W1 := _) (bs := []) rfl rfl rfl ?_
  rw [show nI (6 * k) + nI 1 = nI (6 * k + 1) from px_eadd rfl rfl]
  refine XG.sldL (j := 6 * k + 1) (by omega) hL dL_664 ?_
  refine XG.callV (ro := ro1) (W1 := (sW bv tv ta tb uv ua ub rv ra rb (px_tr (px_f [31, 32, 33, 34, 35, 36, 16, 17, 18, 19, 20, 21, 22, 23, 24, 25, 26, 27, 28, 29, 30, 1, 2, 3, 4, 5, 6, 7, 8, 9, 10, 11, 12, 13, 14, 15]) rt9) se pv pa gv ga ov oa qv qa hv ha nv na yv ya cf cs)) (rest := []) eL_law_665 kl_L_89 (cs_better 100 bv tv ta tb uv ua ub rv ra rb (px_tr (px_f [31, 32, 33, 34, 35, 36, 16, 17, 18, 19, 20, 21, 22, 23, 24, 25, 26, 27, 28, 29, 30, 1, 2, 3, 4, 5, 6, 7, 8, 9, 10, 11, 12, 13, 14, 15]) rt9) se pv pa gv ga ov oa qv qa hv ha nv na yv ya cf cs S lv v a iv.tx.q iv.nt (xs (6 * k + 1)) (by decide)) fitL rfl h1 rfl (by rw [hc1]; rfl) (Nat.le_of_ble_eq_true rfl) (fun r9 W9 hp9 hl9 => ?_)
  have h1b := sub_pt h1 hl9
  have h2b := sub_pt2 (ro := ro1) (W1 := W9) h2 hdis
  revert h1b h2b
  generalize px_pt (px_f ro1) ro1 W9 W0 = W2
  intro h1b h2b
  obtain ⟨pv9, pa9, gv9, ga9, ov9, oa9, se9, ta9, rfl, hch, rfl⟩ := hp9
  show XG _ _ _ _ 668 [some (.ref 1000), some (.ref 0), some (.ref 82), some (.int (nI (6 * k)))] [(.int (qBetter a lv (S.1 23) (S.1 24) (S.1 31) (xs (6 * k + 1))))] _
  refine XG.blk tL_law_ok 406 5 (pc' := 673) (pl' := [some (.ref 1000), some (.ref 0), some (.ref 82), some (.int (nI (6 * k)))]) (st' := [(.int (nI (6 * k) + nI 1)), (.ref 1000), (.ref 82), (.int (qBetter a lv (S.1 23) (S.1 24) (S.1 31) (xs (6 * k + 1))))]) (W1 := _) (bs := []) rfl rfl rfl ?_
  rw [show nI (6 * k) + nI 1 = nI (6 * k + 1) from px_eadd rfl rfl]
  refine XG.sldL (j := 6 * k + 1) (by omega) hL dL_673 ?_
  refine XG.callV (ro := ro2) (W1 := (mW v a b)) (rest := [(.int (qBetter a lv (S.1 23) (S.1 24) (S.1 31) (xs (6 * k + 1))))]) eL_law_674 kl_L_92 (con_better 100 v a b lv (S.1 23) (S.1 24) (S.1 31) iv.mi iv.wf (xs (6 * k + 1)) (by decide)) fitL rfl h2b rfl (by rw [hc2]; rfl) (Nat.le_of_ble_eq_true rfl) (fun r8 W8 hp8 hl8 => ?_)
  have h1c := sub_pt2 (ro := ro2) (W1 := W8) h1b hdi2
  have h2c := sub_pt h2b hl8
  revert h1c h2c
  generalize px_pt (px_f ro2) ro2 W8 W2 = W3
  intro h1c h2c
  obtain ⟨v9, a9, rfl, hQ, rfl⟩ := hp8
  show XG _ _ _ _ 677 [some (.ref 1000), some (.ref 0), some (.ref 82), some (.int (nI (6 * k)))] [(.int (qBetter a lv (S.1 23) (S.1 24) (S.1 31) (xs (6 * k + 1)))), (.int (qBetter a lv (S.1 23) (S.1 24) (S.1 31) (xs (6 * k + 1))))] _
  refine XG.br eL_law_677 (P := (qBetter a lv (S.1 23) (S.1 24) (S.1 31) (xs (6 * k + 1))) = (qBetter a lv (S.1 23) (S.1 24) (S.1 31) (xs (6 * k + 1)))) (r := []) rfl (tgt := 1021) (by decide) (fun _ => kk _ ⟨ro1, ro2, S, lv, _, _, _, _, _, _, _, _, _, _, _, _, _, _, _, _, _, _, _, _, _, _, _, _, _, _, _, _, _, _, _, h1c, h2c, hc1, hc2, hdis, ((iv.c22 hch).qs hQ).mono (by omega)⟩) (fun h => absurd (rfl) h)
set_option maxRecDepth 100000 in
set_option maxHeartbeats 1000000 in
theorem lc_cheap {L : Nat} {xs : Nat → Int32} (hL : L ≤ 3072) (k : Nat) (hk : 6 * k + 6 ≤ L) (W0 : px_W) (hI : LI (24 * k) W0) (kk : ∀ W1, LI (24 * k + 24) W1 → XG mL_law (px_gL L xs) 131 22130 1021 [some (.ref 1000), some (.ref 0), some (.ref 82), some (.int (nI (6 * k)))] [] W1) : XG mL_law (px_gL L xs) 131 22130 682 [some (.ref 1000), some (.ref 0), some (.ref 82), some (.int (nI (6 * k)))] [] W0 := by
  obtain ⟨ro1, ro2, S, lv, v, a, b, bv, tv, ta, tb, uv, ua, ub, rv, ra, rb, rt9, se, pv, pa, gv, ga, ov, oa, qv, qa, hv, ha, nv, na, yv, ya, cf, cs, h1, h2, hc1, hc2, hdis, iv⟩ := hI
  have hdi2 : ∀ j, j ∈ ro1 → j ∉ ro2 := fun j h w => hdis j w h
  have hs := iv.tx.2.1
  have hr := iv.tx.2.2.1
  refine XG.blk tL_law_ok 416 5 (pc' := 687) (pl' := [some (.ref 1000), some (.ref 0), some (.ref 82), some (.int (nI (6 * k)))]) (st' := [(.int (nI (6 * k) + nI 1)), (.ref 1000), (.ref 0)]) (W1 := _) (bs := []) rfl rfl rfl ?_
  rw [show nI (6 * k) + nI 1 = nI (6 * k + 1) from px_eadd rfl rfl]
  refine XG.sldL (j := 6 * k + 1) (by omega) hL dL_687 ?_
  refine XG.blk tL_law_ok 422 4 (pc' := 692) (pl' := [some (.ref 1000), some (.ref 0), some (.ref 82), some (.int (nI (6 * k)))]) (st' := [(.int (nI (6 * k) + nI 2)), (.ref 1000), (.int (xs (6 * k + 1))), (.ref 0)]) (W1 := _) (bs := []) rfl rfl rfl ?_
  rw [show nI (6 * k) + nI 2 = nI (6 * k + 2) from px_eadd rfl rfl]
  refine XG.sldL (j := 6 * k + 2) (by omega) hL dL_692 ?_
  refine XG.callV (ro := ro1) (W1 := (sW bv tv ta tb uv ua ub rv ra rb (px_tr (px_f [31, 32, 33, 34, 35, 36, 16, 17, 18, 19, 20, 21, 22, 23, 24, 25, 26, 27, 28, 29, 30, 1, 2, 3, 4, 5, 6, 7, 8, 9, 10, 11, 12, 13, 14, 15]) rt9) se pv pa gv ga ov oa qv qa hv ha nv na yv ya cf cs)) (rest := []) eL_law_693 kl_L_93 (cs_cheap 100 bv tv ta tb uv ua ub rv ra rb (px_tr (px_f [31, 32, 33, 34, 35, 36, 16, 17, 18, 19, 20, 21, 22, 23, 24, 25, 26, 27, 28, 29, 30, 1, 2, 3, 4, 5, 6, 7, 8, 9, 10, 11, 12, 13, 14, 15]) rt9) se pv pa gv ga ov oa qv qa hv ha nv na yv ya cf cs S lv v a iv.tx.q iv.nt (xs (6 * k + 1)) (xs (6 * k + 2)) (by decide)) fitL rfl h1 rfl (by rw [hc1]; rfl) (Nat.le_of_ble_eq_true rfl) (fun r9 W9 hp9 hl9 => ?_)
  have h1b := sub_pt h1 hl9
  have h2b := sub_pt2 (ro := ro1) (W1 := W9) h2 hdis
  revert h1b h2b
  generalize px_pt (px_f ro1) ro1 W9 W0 = W2
  intro h1b h2b
  obtain ⟨pv9, pa9, gv9, ga9, ov9, oa9, se9, ta9, rfl, hch, rfl⟩ := hp9
  show XG _ _ _ _ 696 [some (.ref 1000), some (.ref 0), some (.ref 82), some (.int (nI (6 * k)))] [(.int (qCheap a lv (S.1 23) (S.1 24) (S.1 31) (xs (6 * k + 1)) (xs (6 * k + 2))))] _
  refine XG.blk tL_law_ok 428 5 (pc' := 701) (pl' := [some (.ref 1000), some (.ref 0), some (.ref 82), some (.int (nI (6 * k)))]) (st' := [(.int (nI (6 * k) + nI 1)), (.ref 1000), (.ref 82), (.int (qCheap a lv (S.1 23) (S.1 24) (S.1 31) (xs (6 * k + 1)) (xs (6 * k + 2))))]) (W1 := _) (bs := []) rfl rfl rfl ?_
  rw [show nI (6 * k) + nI 1 = nI (6 * k + 1) from px_eadd rfl rfl]
  refine XG.sldL (j := 6 * k + 1) (by omega) hL dL_701 ?_
  refine XG.blk tL_law_ok 434 4 (pc' := 706) (pl' := [some (.ref 1000), some (.ref 0), some (.ref 82), some (.int (nI (6 * k)))]) (st' := [(.int (nI (6 * k) + nI 2)), (.ref 1000), (.int (xs (6 * k + 1))), (.ref 82), (.int (qCheap a lv (S.1 23) (S.1 24) (S.1 31) (xs (6 * k + 1)) (xs (6 * k + 2))))]) (W1 := _) (bs := []) rfl rfl rfl ?_
  rw [show nI (6 * k) + nI 2 = nI (6 * k + 2) from px_eadd rfl rfl]
  refine XG.sldL (j := 6 * k + 2) (by omega) hL dL_706 ?_
  refine XG.callV (ro := ro2) (W1 := (mW v a b)) (rest := [(.int (qCheap a lv (S.1 23) (S.1 24) (S.1 31) (xs (6 * k + 1)) (xs (6 * k + 2))))]) eL_law_707 kl_L_96 (con_cheap 100 v a b lv (S.1 23) (S.1 24) (S.1 31) iv.mi iv.wf (xs (6 * k + 1)) (xs (6 * k + 2)) (by decide)) fitL rfl h2b rfl (by rw [hc2]; rfl) (Nat.le_of_ble_eq_true rfl) (fun r8 W8 hp8 hl8 => ?_)
  have h1c := sub_pt2 (ro := ro2) (W1 := W8) h1b hdi2
  have h2c := sub_pt h2b hl8
  revert h1c h2c
  generalize px_pt (px_f ro2) ro2 W8 W2 = W3
  intro h1c h2c
  obtain ⟨v9, a9, rfl, hQ, rfl⟩ := hp8
  show XG _ _ _ _ 710 [some (.ref 1000), some (.ref 0), some (.ref 82), some (.int (nI (6 * k)))] [(.int (qCheap a lv (S.1 23) (S.1 24) (S.1 31) (xs (6 * k + 1)) (xs (6 * k + 2)))), (.int (qCheap a lv (S.1 23) (S.1 24) (S.1 31) (xs (6 * k + 1)) (xs (6 * k + 2))))] _
  refine XG.br eL_law_710 (P := (qCheap a lv (S.1 23) (S.1 24) (S.1 31) (xs (6 * k + 1)) (xs (6 * k + 2))) = (qCheap a lv (S.1 23) (S.1 24) (S.1 31) (xs (6 * k + 1)) (xs (6 * k + 2)))) (r := []) rfl (tgt := 1021) (by decide) (fun _ => kk _ ⟨ro1, ro2, S, lv, _, _, _, _, _, _, _, _, _, _, _, _, _, _, _, _, _, _, _, _, _, _, _, _, _, _, _, _, _, _, _, h1c, h2c, hc1, hc2, hdis, ((iv.c22 hch).qs hQ).mono (by omega)⟩) (fun h => absurd (rfl) h)
set_option maxRecDepth 100000 in
set_option maxHeartbeats 1000000 in
theorem lc_order {L : Nat} {xs : Nat → Int32} (hL : L ≤ 3072) (k : Nat) (hk : 6 * k + 6 ≤ L) (W0 : px_W) (hI : LI (24 * k) W0) (kk : ∀ W1, LI (24 * k + 24) W1 → XG mL_law (px_gL L xs) 131 22130 1021 [some (.ref 1000), some (.ref 0), some (.ref 82), some (.int (nI (6 * k)))] [] W1) : XG mL_law (px_gL L xs) 131 22130 715 [some (.ref 1000), some (.ref 0), some (.ref 82), some (.int (nI (6 * k)))] [] W0 := by
  obtain ⟨ro1, ro2, S, lv, v, a, b, bv, tv, ta, tb, uv, ua, ub, rv, ra, rb, rt9, se, pv, pa, gv, ga, ov, oa, qv, qa, hv, ha, nv, na, yv, ya, cf, cs, h1, h2, hc1, hc2, hdis, iv⟩ := hI
  have hdi2 : ∀ j, j ∈ ro1 → j ∉ ro2 := fun j h w => hdis j w h
  have hs := iv.tx.2.1
  have hr := iv.tx.2.2.1
  refine XG.blk tL_law_ok 443 5 (pc' := 720) (pl' := [some (.ref 1000), some (.ref 0), some (.ref 82), some (.int (nI (6 * k)))]) (st' := [(.int (nI (6 * k) + nI 1)), (.ref 1000), (.ref 0)]) (W1 := _) (bs := []) rfl rfl rfl ?_
  rw [show nI (6 * k) + nI 1 = nI (6 * k + 1) from px_eadd rfl rfl]
  refine XG.sldL (j := 6 * k + 1) (by omega) hL dL_720 ?_
  refine XG.callV (ro := ro1) (W1 := (sW bv tv ta tb uv ua ub rv ra rb (px_tr (px_f [31, 32, 33, 34, 35, 36, 16, 17, 18, 19, 20, 21, 22, 23, 24, 25, 26, 27, 28, 29, 30, 1, 2, 3, 4, 5, 6, 7, 8, 9, 10, 11, 12, 13, 14, 15]) rt9) se pv pa gv ga ov oa qv qa hv ha nv na yv ya cf cs)) (rest := []) eL_law_721 kl_L_97 (cs_order 100 bv tv ta tb uv ua ub rv ra rb (px_tr (px_f [31, 32, 33, 34, 35, 36, 16, 17, 18, 19, 20, 21, 22, 23, 24, 25, 26, 27, 28, 29, 30, 1, 2, 3, 4, 5, 6, 7, 8, 9, 10, 11, 12, 13, 14, 15]) rt9) se pv pa gv ga ov oa qv qa hv ha nv na yv ya cf cs S lv v a iv.tx.q iv.nt (24 * k) iv.gr (by omega) (xs (6 * k + 1)) (by decide)) fitL rfl h1 rfl (by rw [hc1]; rfl) (Nat.le_of_ble_eq_true rfl) (fun r9 W9 hp9 hl9 => ?_)
  have h1b := sub_pt h1 hl9
  have h2b := sub_pt2 (ro := ro1) (W1 := W9) h2 hdis
  revert h1b h2b
  generalize px_pt (px_f ro1) ro1 W9 W0 = W2
  intro h1b h2b
  obtain ⟨pv9, pa9, gv9, ga9, ov9, oa9, se9, ta9, rfl, hch, rfl⟩ := hp9
  show XG _ _ _ _ 724 [some (.ref 1000), some (.ref 0), some (.ref 82), some (.int (nI (6 * k)))] [(.int (qOrder (v 67) v a lv (S.1 23) (S.1 24) (S.1 31) (xs (6 * k + 1))))] _
  refine XG.blk tL_law_ok 450 5 (pc' := 729) (pl' := [some (.ref 1000), some (.ref 0), some (.ref 82), some (.int (nI (6 * k)))]) (st' := [(.int (nI (6 * k) + nI 1)), (.ref 1000), (.ref 82), (.int (qOrder (v 67) v a lv (S.1 23) (S.1 24) (S.1 31) (xs (6 * k + 1))))]) (W1 := _) (bs := []) rfl rfl rfl ?_
  rw [show nI (6 * k) + nI 1 = nI (6 * k + 1) from px_eadd rfl rfl]
  refine XG.sldL (j := 6 * k + 1) (by omega) hL dL_729 ?_
  refine XG.callV (ro := ro2) (W1 := (mW v a b)) (rest := [(.int (qOrder (v 67) v a lv (S.1 23) (S.1 24) (S.1 31) (xs (6 * k + 1))))]) eL_law_730 kl_L_100 (con_order 100 v a b lv (S.1 23) (S.1 24) (S.1 31) iv.mi iv.wf iv.tx.q.tl (xs (6 * k + 1)) (by decide)) fitL rfl h2b rfl (by rw [hc2]; rfl) (Nat.le_of_ble_eq_true rfl) (fun r8 W8 hp8 hl8 => ?_)
  have h1c := sub_pt2 (ro := ro2) (W1 := W8) h1b hdi2
  have h2c := sub_pt h2b hl8
  revert h1c h2c
  generalize px_pt (px_f ro2) ro2 W8 W2 = W3
  intro h1c h2c
  obtain ⟨v9, a9, rfl, hQ, rfl⟩ := hp8
  show XG _ _ _ _ 733 [some (.ref 1000), some (.ref 0), some (.ref 82), some (.int (nI (6 * k)))] [(.int (qOrder (v 67) v a lv (S.1 23) (S.1 24) (S.1 31) (xs (6 * k + 1)))), (.int (qOrder (v 67) v a lv (S.1 23) (S.1 24) (S.1 31) (xs (6 * k + 1))))] _
  refine XG.br eL_law_733 (P := (qOrder (v 67) v a lv (S.1 23) (S.1 24) (S.1 31) (xs (6 * k + 1))) = (qOrder (v 67) v a lv (S.1 23) (S.1 24) (S.1 31) (xs (6 * k + 1)))) (r := []) rfl (tgt := 1021) (by decide) (fun _ => kk _ ⟨ro1, ro2, S, lv, _, _, _, _, _, _, _, _, _, _, _, _, _, _, _, _, _, _, _, _, _, _, _, _, _, _, _, _, _, _, _, h1c, h2c, hc1, hc2, hdis, ((iv.c22 hch).qs hQ).mono (by omega)⟩) (fun h => absurd (rfl) h)
set_option maxRecDepth 100000 in
set_option maxHeartbeats 1000000 in
theorem lc_soon {L : Nat} {xs : Nat → Int32} (hL : L ≤ 3072) (k : Nat) (hk : 6 * k + 6 ≤ L) (W0 : px_W) (hI : LI (24 * k) W0) (kk : ∀ W1, LI (24 * k + 24) W1 → XG mL_law (px_gL L xs) 131 22130 1021 [some (.ref 1000), some (.ref 0), some (.ref 82), some (.int (nI (6 * k)))] [] W1) : XG mL_law (px_gL L xs) 131 22130 738 [some (.ref 1000), some (.ref 0), some (.ref 82), some (.int (nI (6 * k)))] [] W0 := by
  obtain ⟨ro1, ro2, S, lv, v, a, b, bv, tv, ta, tb, uv, ua, ub, rv, ra, rb, rt9, se, pv, pa, gv, ga, ov, oa, qv, qa, hv, ha, nv, na, yv, ya, cf, cs, h1, h2, hc1, hc2, hdis, iv⟩ := hI
  have hdi2 : ∀ j, j ∈ ro1 → j ∉ ro2 := fun j h w => hdis j w h
  have hs := iv.tx.2.1
  have hr := iv.tx.2.2.1
  refine XG.blk tL_law_ok 460 5 (pc' := 743) (pl' := [some (.ref 1000), some (.ref 0), some (.ref 82), some (.int (nI (6 * k)))]) (st' := [(.int (nI (6 * k) + nI 1)), (.ref 1000), (.ref 0)]) (W1 := _) (bs := []) rfl rfl rfl ?_
  rw [show nI (6 * k) + nI 1 = nI (6 * k + 1) from px_eadd rfl rfl]
  refine XG.sldL (j := 6 * k + 1) (by omega) hL dL_743 ?_
  refine XG.callV (ro := ro1) (W1 := (sW bv tv ta tb uv ua ub rv ra rb (px_tr (px_f [31, 32, 33, 34, 35, 36, 16, 17, 18, 19, 20, 21, 22, 23, 24, 25, 26, 27, 28, 29, 30, 1, 2, 3, 4, 5, 6, 7, 8, 9, 10, 11, 12, 13, 14, 15]) rt9) se pv pa gv ga ov oa qv qa hv ha nv na yv ya cf cs)) (rest := []) eL_law_744 kl_L_101 (cs_soon 100 bv tv ta tb uv ua ub rv ra rb (px_tr (px_f [31, 32, 33, 34, 35, 36, 16, 17, 18, 19, 20, 21, 22, 23, 24, 25, 26, 27, 28, 29, 30, 1, 2, 3, 4, 5, 6, 7, 8, 9, 10, 11, 12, 13, 14, 15]) rt9) se pv pa gv ga ov oa qv qa hv ha nv na yv ya cf cs S lv v a iv.tx.q iv.nt (xs (6 * k + 1)) (24 * k) iv.gr (by omega) (by decide)) fitL rfl h1 rfl (by rw [hc1]; rfl) (Nat.le_of_ble_eq_true rfl) (fun r9 W9 hp9 hl9 => ?_)
  have h1b := sub_pt h1 hl9
  have h2b := sub_pt2 (ro := ro1) (W1 := W9) h2 hdis
  revert h1b h2b
  generalize px_pt (px_f ro1) ro1 W9 W0 = W2
  intro h1b h2b
  obtain ⟨pv9, pa9, gv9, ga9, ov9, oa9, se9, ta9, rfl, hch, rfl⟩ := hp9
  show XG _ _ _ _ 747 [some (.ref 1000), some (.ref 0), some (.ref 82), some (.int (nI (6 * k)))] [(.int (ansB (xs (6 * k + 1)) (S.1 31) (fun x => qSoon v a lv (S.1 23) (S.1 24) (S.1 31) x) (-1)))] _
  refine XG.blk tL_law_ok 467 5 (pc' := 752) (pl' := [some (.ref 1000), some (.ref 0), some (.ref 82), some (.int (nI (6 * k)))]) (st' := [(.int (nI (6 * k) + nI 1)), (.ref 1000), (.ref 82), (.int (ansB (xs (6 * k + 1)) (S.1 31) (fun x => qSoon v a lv (S.1 23) (S.1 24) (S.1 31) x) (-1)))]) (W1 := _) (bs := []) rfl rfl rfl ?_
  rw [show nI (6 * k) + nI 1 = nI (6 * k + 1) from px_eadd rfl rfl]
  refine XG.sldL (j := 6 * k + 1) (by omega) hL dL_752 ?_
  refine XG.callV (ro := ro2) (W1 := (mW v a b)) (rest := [(.int (ansB (xs (6 * k + 1)) (S.1 31) (fun x => qSoon v a lv (S.1 23) (S.1 24) (S.1 31) x) (-1)))]) eL_law_753 kl_L_104 (con_soon 100 v a b lv (S.1 23) (S.1 24) (S.1 31) iv.mi iv.wf (xs (6 * k + 1)) (by decide)) fitL rfl h2b rfl (by rw [hc2]; rfl) (Nat.le_of_ble_eq_true rfl) (fun r8 W8 hp8 hl8 => ?_)
  have h1c := sub_pt2 (ro := ro2) (W1 := W8) h1b hdi2
  have h2c := sub_pt h2b hl8
  revert h1c h2c
  generalize px_pt (px_f ro2) ro2 W8 W2 = W3
  intro h1c h2c
  obtain ⟨v9, a9, rfl, hQ, rfl⟩ := hp8
  show XG _ _ _ _ 756 [some (.ref 1000), some (.ref 0), some (.ref 82), some (.int (nI (6 * k)))] [(.int (ansB (xs (6 * k + 1)) (S.1 31) (fun x => qSoon v a lv (S.1 23) (S.1 24) (S.1 31) x) (-1))), (.int (ansB (xs (6 * k + 1)) (S.1 31) (fun x => qSoon v a lv (S.1 23) (S.1 24) (S.1 31) x) (-1)))] _
  refine XG.br eL_law_756 (P := (ansB (xs (6 * k + 1)) (S.1 31) (fun x => qSoon v a lv (S.1 23) (S.1 24) (S.1 31) x) (-1)) = (ansB (xs (6 * k + 1)) (S.1 31) (fun x => qSoon v a lv (S.1 23) (S.1 24) (S.1 31) x) (-1))) (r := []) rfl (tgt := 1021) (by decide) (fun _ => kk _ ⟨ro1, ro2, S, lv, _, _, _, _, _, _, _, _, _, _, _, _, _, _, _, _, _, _, _, _, _, _, _, _, _, _, _, _, _, _, _, h1c, h2c, hc1, hc2, hdis, ((iv.c22 hch).qs hQ).mono (by omega)⟩) (fun h => absurd (rfl) h)
set_option maxRecDepth 100000 in
set_option maxHeartbeats 1000000 in
theorem lc_start {L : Nat} {xs : Nat → Int32} (hL : L ≤ 3072) (k : Nat) (hk : 6 * k + 6 ≤ L) (W0 : px_W) (hI : LI (24 * k) W0) (kk : ∀ W1, LI (24 * k + 24) W1 → XG mL_law (px_gL L xs) 131 22130 1021 [some (.ref 1000), some (.ref 0), some (.ref 82), some (.int (nI (6 * k)))] [] W1) : XG mL_law (px_gL L xs) 131 22130 761 [some (.ref 1000), some (.ref 0), some (.ref 82), some (.int (nI (6 * k)))] [] W0 := by
  obtain ⟨ro1, ro2, S, lv, v, a, b, bv, tv, ta, tb, uv, ua, ub, rv, ra, rb, rt9, se, pv, pa, gv, ga, ov, oa, qv, qa, hv, ha, nv, na, yv, ya, cf, cs, h1, h2, hc1, hc2, hdis, iv⟩ := hI
  have hdi2 : ∀ j, j ∈ ro1 → j ∉ ro2 := fun j h w => hdis j w h
  have hs := iv.tx.2.1
  have hr := iv.tx.2.2.1
  obtain ⟨h28, hle28, e28⟩ := iv.gr.2
  refine XG.blk tL_law_ok 477 5 (pc' := 766) (pl' := [some (.ref 1000), some (.ref 0), some (.ref 82), some (.int (nI (6 * k)))]) (st' := [(.int (nI (6 * k) + nI 1)), (.ref 1000), (.ref 0)]) (W1 := _) (bs := []) rfl rfl rfl ?_
  rw [show nI (6 * k) + nI 1 = nI (6 * k + 1) from px_eadd rfl rfl]
  refine XG.sldL (j := 6 * k + 1) (by omega) hL dL_766 ?_
  refine XG.callV (ro := ro1) (W1 := (sW bv tv ta tb uv ua ub rv ra rb (px_tr (px_f [31, 32, 33, 34, 35, 36, 16, 17, 18, 19, 20, 21, 22, 23, 24, 25, 26, 27, 28, 29, 30, 1, 2, 3, 4, 5, 6, 7, 8, 9, 10, 11, 12, 13, 14, 15]) rt9) se pv pa gv ga ov oa qv qa hv ha nv na yv ya cf cs)) (rest := []) eL_law_767 kl_L_105 (cs_start 100 bv tv ta tb uv ua ub rv ra rb (px_tr (px_f [31, 32, 33, 34, 35, 36, 16, 17, 18, 19, 20, 21, 22, 23, 24, 25, 26, 27, 28, 29, 30, 1, 2, 3, 4, 5, 6, 7, 8, 9, 10, 11, 12, 13, 14, 15]) rt9) se pv pa gv ga ov oa qv qa hv ha nv na yv ya cf cs S lv v a iv.tx.q iv.nt (xs (6 * k + 1)) h28 e28 (by omega) ⟨iv.gr.1, h28, Nat.le_refl _, e28⟩ (by decide)) fitL rfl h1 rfl (by rw [hc1]; rfl) (Nat.le_of_ble_eq_true rfl) (fun r9 W9 hp9 hl9 => ?_)
  have h1b := sub_pt h1 hl9
  have h2b := sub_pt2 (ro := ro1) (W1 := W9) h2 hdis
  revert h1b h2b
  generalize px_pt (px_f ro1) ro1 W9 W0 = W2
  intro h1b h2b
  obtain ⟨pv9, pa9, gv9, ga9, ov9, oa9, se9, ta9, rfl, hch, rfl⟩ := hp9
  show XG _ _ _ _ 770 [some (.ref 1000), some (.ref 0), some (.ref 82), some (.int (nI (6 * k)))] [(.int (ansB (xs (6 * k + 1)) (S.1 31) (fun x => qStart v a lv (S.1 23) (S.1 24) (S.1 31) x) (-1)))] _
  refine XG.blk tL_law_ok 484 5 (pc' := 775) (pl' := [some (.ref 1000), some (.ref 0), some (.ref 82), some (.int (nI (6 * k)))]) (st' := [(.int (nI (6 * k) + nI 1)), (.ref 1000), (.ref 82), (.int (ansB (xs (6 * k + 1)) (S.1 31) (fun x => qStart v a lv (S.1 23) (S.1 24) (S.1 31) x) (-1)))]) (W1 := _) (bs := []) rfl rfl rfl ?_
  rw [show nI (6 * k) + nI 1 = nI (6 * k + 1) from px_eadd rfl rfl]
  refine XG.sldL (j := 6 * k + 1) (by omega) hL dL_775 ?_
  refine XG.callV (ro := ro2) (W1 := (mW v a b)) (rest := [(.int (ansB (xs (6 * k + 1)) (S.1 31) (fun x => qStart v a lv (S.1 23) (S.1 24) (S.1 31) x) (-1)))]) eL_law_776 kl_L_108 (con_start 100 v a b lv (S.1 23) (S.1 24) (S.1 31) iv.mi iv.wf h28 (S.1 35) e28 (by omega) iv.tx.dw.2.2 iv.tx.dw.2.1 (xs (6 * k + 1)) (by decide)) fitL rfl h2b rfl (by rw [hc2]; rfl) (Nat.le_of_ble_eq_true rfl) (fun r8 W8 hp8 hl8 => ?_)
  have h1c := sub_pt2 (ro := ro2) (W1 := W8) h1b hdi2
  have h2c := sub_pt h2b hl8
  revert h1c h2c
  generalize px_pt (px_f ro2) ro2 W8 W2 = W3
  intro h1c h2c
  obtain ⟨v9, a9, rfl, hQ, rfl⟩ := hp8
  show XG _ _ _ _ 779 [some (.ref 1000), some (.ref 0), some (.ref 82), some (.int (nI (6 * k)))] [(.int (ansB (xs (6 * k + 1)) (S.1 31) (fun x => qStart v a lv (S.1 23) (S.1 24) (S.1 31) x) (-1))), (.int (ansB (xs (6 * k + 1)) (S.1 31) (fun x => qStart v a lv (S.1 23) (S.1 24) (S.1 31) x) (-1)))] _
  refine XG.br eL_law_779 (P := (ansB (xs (6 * k + 1)) (S.1 31) (fun x => qStart v a lv (S.1 23) (S.1 24) (S.1 31) x) (-1)) = (ansB (xs (6 * k + 1)) (S.1 31) (fun x => qStart v a lv (S.1 23) (S.1 24) (S.1 31) x) (-1))) (r := []) rfl (tgt := 1021) (by decide) (fun _ => kk _ ⟨ro1, ro2, S, lv, _, _, _, _, _, _, _, _, _, _, _, _, _, _, _, _, _, _, _, _, _, _, _, _, _, _, _, _, _, _, _, h1c, h2c, hc1, hc2, hdis, ((iv.c22 hch).qs hQ).mono (by omega)⟩) (fun h => absurd (rfl) h)
set_option maxRecDepth 100000 in
set_option maxHeartbeats 1000000 in
theorem lc_missed {L : Nat} {xs : Nat → Int32} (hL : L ≤ 3072) (k : Nat) (hk : 6 * k + 6 ≤ L) (W0 : px_W) (hI : LI (24 * k) W0) (kk : ∀ W1, LI (24 * k + 24) W1 → XG mL_law (px_gL L xs) 131 22130 1021 [some (.ref 1000), some (.ref 0), some (.ref 82), some (.int (nI (6 * k)))] [] W1) : XG mL_law (px_gL L xs) 131 22130 784 [some (.ref 1000), some (.ref 0), some (.ref 82), some (.int (nI (6 * k)))] [] W0 := by
  obtain ⟨ro1, ro2, S, lv, v, a, b, bv, tv, ta, tb, uv, ua, ub, rv, ra, rb, rt9, se, pv, pa, gv, ga, ov, oa, qv, qa, hv, ha, nv, na, yv, ya, cf, cs, h1, h2, hc1, hc2, hdis, iv⟩ := hI
  have hdi2 : ∀ j, j ∈ ro1 → j ∉ ro2 := fun j h w => hdis j w h
  have hs := iv.tx.2.1
  have hr := iv.tx.2.2.1
  refine XG.blk tL_law_ok 494 5 (pc' := 789) (pl' := [some (.ref 1000), some (.ref 0), some (.ref 82), some (.int (nI (6 * k)))]) (st' := [(.int (nI (6 * k) + nI 1)), (.ref 1000), (.ref 0)]) (W1 := _) (bs := []) rfl rfl rfl ?_
  rw [show nI (6 * k) + nI 1 = nI (6 * k + 1) from px_eadd rfl rfl]
  refine XG.sldL (j := 6 * k + 1) (by omega) hL dL_789 ?_
  refine XG.callV (ro := ro1) (W1 := (sW bv tv ta tb uv ua ub rv ra rb (px_tr (px_f [31, 32, 33, 34, 35, 36, 16, 17, 18, 19, 20, 21, 22, 23, 24, 25, 26, 27, 28, 29, 30, 1, 2, 3, 4, 5, 6, 7, 8, 9, 10, 11, 12, 13, 14, 15]) rt9) se pv pa gv ga ov oa qv qa hv ha nv na yv ya cf cs)) (rest := []) eL_law_790 kl_L_109 (cs_missed 100 bv tv ta tb uv ua ub rv ra rb (px_tr (px_f [31, 32, 33, 34, 35, 36, 16, 17, 18, 19, 20, 21, 22, 23, 24, 25, 26, 27, 28, 29, 30, 1, 2, 3, 4, 5, 6, 7, 8, 9, 10, 11, 12, 13, 14, 15]) rt9) se pv pa gv ga ov oa qv qa hv ha nv na yv ya cf cs S lv v a iv.tx.q iv.nt (xs (6 * k + 1)) (by decide)) fitL rfl h1 rfl (by rw [hc1]; rfl) (Nat.le_of_ble_eq_true rfl) (fun r9 W9 hp9 hl9 => ?_)
  have h1b := sub_pt h1 hl9
  have h2b := sub_pt2 (ro := ro1) (W1 := W9) h2 hdis
  revert h1b h2b
  generalize px_pt (px_f ro1) ro1 W9 W0 = W2
  intro h1b h2b
  obtain ⟨pv9, pa9, gv9, ga9, ov9, oa9, se9, ta9, rfl, hch, rfl⟩ := hp9
  show XG _ _ _ _ 793 [some (.ref 1000), some (.ref 0), some (.ref 82), some (.int (nI (6 * k)))] [(.int (qMissed a lv (S.1 23) (S.1 24) (S.1 31) (xs (6 * k + 1))))] _
  refine XG.blk tL_law_ok 501 5 (pc' := 798) (pl' := [some (.ref 1000), some (.ref 0), some (.ref 82), some (.int (nI (6 * k)))]) (st' := [(.int (nI (6 * k) + nI 1)), (.ref 1000), (.ref 82), (.int (qMissed a lv (S.1 23) (S.1 24) (S.1 31) (xs (6 * k + 1))))]) (W1 := _) (bs := []) rfl rfl rfl ?_
  rw [show nI (6 * k) + nI 1 = nI (6 * k + 1) from px_eadd rfl rfl]
  refine XG.sldL (j := 6 * k + 1) (by omega) hL dL_798 ?_
  refine XG.callV (ro := ro2) (W1 := (mW v a b)) (rest := [(.int (qMissed a lv (S.1 23) (S.1 24) (S.1 31) (xs (6 * k + 1))))]) eL_law_799 kl_L_112 (con_missed 100 v a b lv (S.1 23) (S.1 24) (S.1 31) iv.mi iv.wf (xs (6 * k + 1)) (by decide)) fitL rfl h2b rfl (by rw [hc2]; rfl) (Nat.le_of_ble_eq_true rfl) (fun r8 W8 hp8 hl8 => ?_)
  have h1c := sub_pt2 (ro := ro2) (W1 := W8) h1b hdi2
  have h2c := sub_pt h2b hl8
  revert h1c h2c
  generalize px_pt (px_f ro2) ro2 W8 W2 = W3
  intro h1c h2c
  obtain ⟨v9, a9, rfl, hQ, rfl⟩ := hp8
  show XG _ _ _ _ 802 [some (.ref 1000), some (.ref 0), some (.ref 82), some (.int (nI (6 * k)))] [(.int (qMissed a lv (S.1 23) (S.1 24) (S.1 31) (xs (6 * k + 1)))), (.int (qMissed a lv (S.1 23) (S.1 24) (S.1 31) (xs (6 * k + 1))))] _
  refine XG.br eL_law_802 (P := (qMissed a lv (S.1 23) (S.1 24) (S.1 31) (xs (6 * k + 1))) = (qMissed a lv (S.1 23) (S.1 24) (S.1 31) (xs (6 * k + 1)))) (r := []) rfl (tgt := 1021) (by decide) (fun _ => kk _ ⟨ro1, ro2, S, lv, _, _, _, _, _, _, _, _, _, _, _, _, _, _, _, _, _, _, _, _, _, _, _, _, _, _, _, _, _, _, _, h1c, h2c, hc1, hc2, hdis, ((iv.c22 hch).qs hQ).mono (by omega)⟩) (fun h => absurd (rfl) h)
set_option maxRecDepth 100000 in
set_option maxHeartbeats 1000000 in
theorem lc_year {L : Nat} {xs : Nat → Int32} (hL : L ≤ 3072) (k : Nat) (hk : 6 * k + 6 ≤ L) (W0 : px_W) (hI : LI (24 * k) W0) (kk : ∀ W1, LI (24 * k + 24) W1 → XG mL_law (px_gL L xs) 131 22130 1021 [some (.ref 1000), some (.ref 0), some (.ref 82), some (.int (nI (6 * k)))] [] W1) : XG mL_law (px_gL L xs) 131 22130 807 [some (.ref 1000), some (.ref 0), some (.ref 82), some (.int (nI (6 * k)))] [] W0 := by
  obtain ⟨ro1, ro2, S, lv, v, a, b, bv, tv, ta, tb, uv, ua, ub, rv, ra, rb, rt9, se, pv, pa, gv, ga, ov, oa, qv, qa, hv, ha, nv, na, yv, ya, cf, cs, h1, h2, hc1, hc2, hdis, iv⟩ := hI
  have hdi2 : ∀ j, j ∈ ro1 → j ∉ ro2 := fun j h w => hdis j w h
  have hs := iv.tx.2.1
  have hr := iv.tx.2.2.1
  refine XG.blk tL_law_ok 511 5 (pc' := 812) (pl' := [some (.ref 1000), some (.ref 0), some (.ref 82), some (.int (nI (6 * k)))]) (st' := [(.int (nI (6 * k) + nI 1)), (.ref 1000), (.ref 0)]) (W1 := _) (bs := []) rfl rfl rfl ?_
  rw [show nI (6 * k) + nI 1 = nI (6 * k + 1) from px_eadd rfl rfl]
  refine XG.sldL (j := 6 * k + 1) (by omega) hL dL_812 ?_
  refine XG.blk tL_law_ok 517 4 (pc' := 817) (pl' := [some (.ref 1000), some (.ref 0), some (.ref 82), some (.int (nI (6 * k)))]) (st' := [(.int (nI (6 * k) + nI 2)), (.ref 1000), (.int (xs (6 * k + 1))), (.ref 0)]) (W1 := _) (bs := []) rfl rfl rfl ?_
  rw [show nI (6 * k) + nI 2 = nI (6 * k + 2) from px_eadd rfl rfl]
  refine XG.sldL (j := 6 * k + 2) (by omega) hL dL_817 ?_
  refine XG.blk tL_law_ok 522 4 (pc' := 822) (pl' := [some (.ref 1000), some (.ref 0), some (.ref 82), some (.int (nI (6 * k)))]) (st' := [(.int (nI (6 * k) + nI 3)), (.ref 1000), (.int (xs (6 * k + 2))), (.int (xs (6 * k + 1))), (.ref 0)]) (W1 := _) (bs := []) rfl rfl rfl ?_
  rw [show nI (6 * k) + nI 3 = nI (6 * k + 3) from px_eadd rfl rfl]
  refine XG.sldL (j := 6 * k + 3) (by omega) hL dL_822 ?_
  refine XG.callV (ro := ro1) (W1 := (sW bv tv ta tb uv ua ub rv ra rb (px_tr (px_f [31, 32, 33, 34, 35, 36, 16, 17, 18, 19, 20, 21, 22, 23, 24, 25, 26, 27, 28, 29, 30, 1, 2, 3, 4, 5, 6, 7, 8, 9, 10, 11, 12, 13, 14, 15]) rt9) se pv pa gv ga ov oa qv qa hv ha nv na yv ya cf cs)) (rest := []) eL_law_823 kl_L_113 (cs_year 100 bv tv ta tb uv ua ub rv ra rb (px_tr (px_f [31, 32, 33, 34, 35, 36, 16, 17, 18, 19, 20, 21, 22, 23, 24, 25, 26, 27, 28, 29, 30, 1, 2, 3, 4, 5, 6, 7, 8, 9, 10, 11, 12, 13, 14, 15]) rt9) se pv pa gv ga ov oa qv qa hv ha nv na yv ya cf cs S lv v a iv.tx.q iv.nt (24 * k) iv.gr (by omega) (xs (6 * k + 1)) (xs (6 * k + 2)) (xs (6 * k + 3)) (by decide)) fitL rfl h1 rfl (by rw [hc1]; rfl) (Nat.le_of_ble_eq_true rfl) (fun r9 W9 hp9 hl9 => ?_)
  have h1b := sub_pt h1 hl9
  have h2b := sub_pt2 (ro := ro1) (W1 := W9) h2 hdis
  revert h1b h2b
  generalize px_pt (px_f ro1) ro1 W9 W0 = W2
  intro h1b h2b
  obtain ⟨pv9, pa9, gv9, ga9, ov9, oa9, se9, ta9, rfl, hch, rfl⟩ := hp9
  show XG _ _ _ _ 826 [some (.ref 1000), some (.ref 0), some (.ref 82), some (.int (nI (6 * k)))] [(.int (if okYr (S.1 31) (xs (6 * k + 1)) (xs (6 * k + 2)) (xs (6 * k + 3)) then itN (yrF v a lv (S.1 23) (S.1 24) (S.1 31) ((xs (6 * k + 1))).toNatClampNeg ((xs (6 * k + 2))).toNatClampNeg) (nI 0) ((xs (6 * k + 3))).toNatClampNeg else -1))] _
  refine XG.blk tL_law_ok 528 5 (pc' := 831) (pl' := [some (.ref 1000), some (.ref 0), some (.ref 82), some (.int (nI (6 * k)))]) (st' := [(.int (nI (6 * k) + nI 1)), (.ref 1000), (.ref 82), (.int (if okYr (S.1 31) (xs (6 * k + 1)) (xs (6 * k + 2)) (xs (6 * k + 3)) then itN (yrF v a lv (S.1 23) (S.1 24) (S.1 31) ((xs (6 * k + 1))).toNatClampNeg ((xs (6 * k + 2))).toNatClampNeg) (nI 0) ((xs (6 * k + 3))).toNatClampNeg else -1))]) (W1 := _) (bs := []) rfl rfl rfl ?_
  rw [show nI (6 * k) + nI 1 = nI (6 * k + 1) from px_eadd rfl rfl]
  refine XG.sldL (j := 6 * k + 1) (by omega) hL dL_831 ?_
  refine XG.blk tL_law_ok 534 4 (pc' := 836) (pl' := [some (.ref 1000), some (.ref 0), some (.ref 82), some (.int (nI (6 * k)))]) (st' := [(.int (nI (6 * k) + nI 2)), (.ref 1000), (.int (xs (6 * k + 1))), (.ref 82), (.int (if okYr (S.1 31) (xs (6 * k + 1)) (xs (6 * k + 2)) (xs (6 * k + 3)) then itN (yrF v a lv (S.1 23) (S.1 24) (S.1 31) ((xs (6 * k + 1))).toNatClampNeg ((xs (6 * k + 2))).toNatClampNeg) (nI 0) ((xs (6 * k + 3))).toNatClampNeg else -1))]) (W1 := _) (bs := []) rfl rfl rfl ?_
  rw [show nI (6 * k) + nI 2 = nI (6 * k + 2) from px_eadd rfl rfl]
  refine XG.sldL (j := 6 * k + 2) (by omega) hL dL_836 ?_
  refine XG.blk tL_law_ok 539 4 (pc' := 841) (pl' := [some (.ref 1000), some (.ref 0), some (.ref 82), some (.int (nI (6 * k)))]) (st' := [(.int (nI (6 * k) + nI 3)), (.ref 1000), (.int (xs (6 * k + 2))), (.int (xs (6 * k + 1))), (.ref 82), (.int (if okYr (S.1 31) (xs (6 * k + 1)) (xs (6 * k + 2)) (xs (6 * k + 3)) then itN (yrF v a lv (S.1 23) (S.1 24) (S.1 31) ((xs (6 * k + 1))).toNatClampNeg ((xs (6 * k + 2))).toNatClampNeg) (nI 0) ((xs (6 * k + 3))).toNatClampNeg else -1))]) (W1 := _) (bs := []) rfl rfl rfl ?_
  rw [show nI (6 * k) + nI 3 = nI (6 * k + 3) from px_eadd rfl rfl]
  refine XG.sldL (j := 6 * k + 3) (by omega) hL dL_841 ?_
  refine XG.callV (ro := ro2) (W1 := (mW v a b)) (rest := [(.int (if okYr (S.1 31) (xs (6 * k + 1)) (xs (6 * k + 2)) (xs (6 * k + 3)) then itN (yrF v a lv (S.1 23) (S.1 24) (S.1 31) ((xs (6 * k + 1))).toNatClampNeg ((xs (6 * k + 2))).toNatClampNeg) (nI 0) ((xs (6 * k + 3))).toNatClampNeg else -1))]) eL_law_842 kl_L_117 (con_year 100 v a b lv (S.1 23) (S.1 24) (S.1 31) iv.mi iv.wf (xs (6 * k + 1)) (xs (6 * k + 2)) (xs (6 * k + 3)) (by decide)) fitL rfl h2b rfl (by rw [hc2]; rfl) (Nat.le_of_ble_eq_true rfl) (fun r8 W8 hp8 hl8 => ?_)
  have h1c := sub_pt2 (ro := ro2) (W1 := W8) h1b hdi2
  have h2c := sub_pt h2b hl8
  revert h1c h2c
  generalize px_pt (px_f ro2) ro2 W8 W2 = W3
  intro h1c h2c
  obtain ⟨v9, a9, rfl, hQ, rfl⟩ := hp8
  show XG _ _ _ _ 845 [some (.ref 1000), some (.ref 0), some (.ref 82), some (.int (nI (6 * k)))] [(.int (if okYr (S.1 31) (xs (6 * k + 1)) (xs (6 * k + 2)) (xs (6 * k + 3)) then itN (yrF v a lv (S.1 23) (S.1 24) (S.1 31) ((xs (6 * k + 1))).toNatClampNeg ((xs (6 * k + 2))).toNatClampNeg) (nI 0) ((xs (6 * k + 3))).toNatClampNeg else -1)), (.int (if okYr (S.1 31) (xs (6 * k + 1)) (xs (6 * k + 2)) (xs (6 * k + 3)) then itN (yrF v a lv (S.1 23) (S.1 24) (S.1 31) ((xs (6 * k + 1))).toNatClampNeg ((xs (6 * k + 2))).toNatClampNeg) (nI 0) ((xs (6 * k + 3))).toNatClampNeg else -1))] _
  refine XG.br eL_law_845 (P := (if okYr (S.1 31) (xs (6 * k + 1)) (xs (6 * k + 2)) (xs (6 * k + 3)) then itN (yrF v a lv (S.1 23) (S.1 24) (S.1 31) ((xs (6 * k + 1))).toNatClampNeg ((xs (6 * k + 2))).toNatClampNeg) (nI 0) ((xs (6 * k + 3))).toNatClampNeg else -1) = (if okYr (S.1 31) (xs (6 * k + 1)) (xs (6 * k + 2)) (xs (6 * k + 3)) then itN (yrF v a lv (S.1 23) (S.1 24) (S.1 31) ((xs (6 * k + 1))).toNatClampNeg ((xs (6 * k + 2))).toNatClampNeg) (nI 0) ((xs (6 * k + 3))).toNatClampNeg else -1)) (r := []) rfl (tgt := 1021) (by decide) (fun _ => kk _ ⟨ro1, ro2, S, lv, _, _, _, _, _, _, _, _, _, _, _, _, _, _, _, _, _, _, _, _, _, _, _, _, _, _, _, _, _, _, _, h1c, h2c, hc1, hc2, hdis, ((iv.c22 hch).qs hQ).mono (by omega)⟩) (fun h => absurd (rfl) h)
set_option maxRecDepth 100000 in
set_option maxHeartbeats 1000000 in
theorem lc_awake {L : Nat} {xs : Nat → Int32} (hL : L ≤ 3072) (k : Nat) (hk : 6 * k + 6 ≤ L) (W0 : px_W) (hI : LI (24 * k) W0) (kk : ∀ W1, LI (24 * k + 24) W1 → XG mL_law (px_gL L xs) 131 22130 1021 [some (.ref 1000), some (.ref 0), some (.ref 82), some (.int (nI (6 * k)))] [] W1) : XG mL_law (px_gL L xs) 131 22130 896 [some (.ref 1000), some (.ref 0), some (.ref 82), some (.int (nI (6 * k)))] [] W0 := by
  obtain ⟨ro1, ro2, S, lv, v, a, b, bv, tv, ta, tb, uv, ua, ub, rv, ra, rb, rt9, se, pv, pa, gv, ga, ov, oa, qv, qa, hv, ha, nv, na, yv, ya, cf, cs, h1, h2, hc1, hc2, hdis, iv⟩ := hI
  have hdi2 : ∀ j, j ∈ ro1 → j ∉ ro2 := fun j h w => hdis j w h
  have hs := iv.tx.2.1
  have hr := iv.tx.2.2.1
  obtain ⟨tn, htn, e69, hq0, hto⟩ := iv.to
  refine XG.blk tL_law_ok 582 5 (pc' := 901) (pl' := [some (.ref 1000), some (.ref 0), some (.ref 82), some (.int (nI (6 * k)))]) (st' := [(.int (nI (6 * k) + nI 1)), (.ref 1000), (.ref 0)]) (W1 := _) (bs := []) rfl rfl rfl ?_
  rw [show nI (6 * k) + nI 1 = nI (6 * k + 1) from px_eadd rfl rfl]
  refine XG.sldL (j := 6 * k + 1) (by omega) hL dL_901 ?_
  refine XG.blk tL_law_ok 588 4 (pc' := 906) (pl' := [some (.ref 1000), some (.ref 0), some (.ref 82), some (.int (nI (6 * k)))]) (st' := [(.int (nI (6 * k) + nI 2)), (.ref 1000), (.int (xs (6 * k + 1))), (.ref 0)]) (W1 := _) (bs := []) rfl rfl rfl ?_
  rw [show nI (6 * k) + nI 2 = nI (6 * k + 2) from px_eadd rfl rfl]
  refine XG.sldL (j := 6 * k + 2) (by omega) hL dL_906 ?_
  refine XG.callV (ro := ro1) (W1 := (sW bv tv ta tb uv ua ub rv ra rb (px_tr (px_f [31, 32, 33, 34, 35, 36, 16, 17, 18, 19, 20, 21, 22, 23, 24, 25, 26, 27, 28, 29, 30, 1, 2, 3, 4, 5, 6, 7, 8, 9, 10, 11, 12, 13, 14, 15]) rt9) se pv pa gv ga ov oa qv qa hv ha nv na yv ya cf cs)) (rest := []) eL_law_907 kl_L_126 (cs_awake 100 bv tv ta tb uv ua ub rv ra rb (px_tr (px_f [31, 32, 33, 34, 35, 36, 16, 17, 18, 19, 20, 21, 22, 23, 24, 25, 26, 27, 28, 29, 30, 1, 2, 3, 4, 5, 6, 7, 8, 9, 10, 11, 12, 13, 14, 15]) rt9) se pv pa gv ga ov oa qv qa hv ha nv na yv ya cf cs S lv v a iv.tx.q iv.nt tn hq0 htn (fun i hi => (hto i hi).1) (xs (6 * k + 1)) (xs (6 * k + 2)) (by decide)) fitL rfl h1 rfl (by rw [hc1]; rfl) (Nat.le_of_ble_eq_true rfl) (fun r9 W9 hp9 hl9 => ?_)
  have h1b := sub_pt h1 hl9
  have h2b := sub_pt2 (ro := ro1) (W1 := W9) h2 hdis
  revert h1b h2b
  generalize px_pt (px_f ro1) ro1 W9 W0 = W2
  intro h1b h2b
  obtain ⟨qv9, qa9, hv9, ha9, se9, ta9, rfl, hch, hq9, rfl⟩ := hp9
  show XG _ _ _ _ 910 [some (.ref 1000), some (.ref 0), some (.ref 82), some (.int (nI (6 * k)))] [(.int (if okAw tn (xs (6 * k + 1)) (xs (6 * k + 2)) then qAwake a lv (S.1 24) (S.1 31) ((xs (6 * k + 1))).toNatClampNeg (xs (6 * k + 2)) else -1))] _
  refine XG.blk tL_law_ok 594 5 (pc' := 915) (pl' := [some (.ref 1000), some (.ref 0), some (.ref 82), some (.int (nI (6 * k)))]) (st' := [(.int (nI (6 * k) + nI 1)), (.ref 1000), (.ref 82), (.int (if okAw tn (xs (6 * k + 1)) (xs (6 * k + 2)) then qAwake a lv (S.1 24) (S.1 31) ((xs (6 * k + 1))).toNatClampNeg (xs (6 * k + 2)) else -1))]) (W1 := _) (bs := []) rfl rfl rfl ?_
  rw [show nI (6 * k) + nI 1 = nI (6 * k + 1) from px_eadd rfl rfl]
  refine XG.sldL (j := 6 * k + 1) (by omega) hL dL_915 ?_
  refine XG.blk tL_law_ok 600 4 (pc' := 920) (pl' := [some (.ref 1000), some (.ref 0), some (.ref 82), some (.int (nI (6 * k)))]) (st' := [(.int (nI (6 * k) + nI 2)), (.ref 1000), (.int (xs (6 * k + 1))), (.ref 82), (.int (if okAw tn (xs (6 * k + 1)) (xs (6 * k + 2)) then qAwake a lv (S.1 24) (S.1 31) ((xs (6 * k + 1))).toNatClampNeg (xs (6 * k + 2)) else -1))]) (W1 := _) (bs := []) rfl rfl rfl ?_
  rw [show nI (6 * k) + nI 2 = nI (6 * k + 2) from px_eadd rfl rfl]
  refine XG.sldL (j := 6 * k + 2) (by omega) hL dL_920 ?_
  refine XG.callV (ro := ro2) (W1 := (mW v a b)) (rest := [(.int (if okAw tn (xs (6 * k + 1)) (xs (6 * k + 2)) then qAwake a lv (S.1 24) (S.1 31) ((xs (6 * k + 1))).toNatClampNeg (xs (6 * k + 2)) else -1))]) eL_law_921 kl_L_129 (con_awake 100 v a b lv (S.1 23) (S.1 24) (S.1 31) iv.mi iv.wf tn e69 htn (xs (6 * k + 1)) (xs (6 * k + 2)) (by decide)) fitL rfl h2b rfl (by rw [hc2]; rfl) (Nat.le_of_ble_eq_true rfl) (fun r8 W8 hp8 hl8 => ?_)
  have h1c := sub_pt2 (ro := ro2) (W1 := W8) h1b hdi2
  have h2c := sub_pt h2b hl8
  revert h1c h2c
  generalize px_pt (px_f ro2) ro2 W8 W2 = W3
  intro h1c h2c
  obtain ⟨v9, a9, rfl, hQ, rfl⟩ := hp8
  show XG _ _ _ _ 924 [some (.ref 1000), some (.ref 0), some (.ref 82), some (.int (nI (6 * k)))] [(.int (if okAw tn (xs (6 * k + 1)) (xs (6 * k + 2)) then qAwake a lv (S.1 24) (S.1 31) ((xs (6 * k + 1))).toNatClampNeg (xs (6 * k + 2)) else -1)), (.int (if okAw tn (xs (6 * k + 1)) (xs (6 * k + 2)) then qAwake a lv (S.1 24) (S.1 31) ((xs (6 * k + 1))).toNatClampNeg (xs (6 * k + 2)) else -1))] _
  refine XG.br eL_law_924 (P := (if okAw tn (xs (6 * k + 1)) (xs (6 * k + 2)) then qAwake a lv (S.1 24) (S.1 31) ((xs (6 * k + 1))).toNatClampNeg (xs (6 * k + 2)) else -1) = (if okAw tn (xs (6 * k + 1)) (xs (6 * k + 2)) then qAwake a lv (S.1 24) (S.1 31) ((xs (6 * k + 1))).toNatClampNeg (xs (6 * k + 2)) else -1)) (r := []) rfl (tgt := 1021) (by decide) (fun _ => kk _ ⟨ro1, ro2, S, lv, _, _, _, _, _, _, _, _, _, _, _, _, _, _, _, _, _, _, _, _, _, _, _, _, _, _, _, _, _, _, _, h1c, h2c, hc1, hc2, hdis, (((iv.c22 hch).ru hq9).qs hQ).mono (by omega)⟩) (fun h => absurd (rfl) h)
set_option maxRecDepth 100000 in
set_option maxHeartbeats 1000000 in
theorem lc_ask {L : Nat} {xs : Nat → Int32} (hL : L ≤ 3072) (k : Nat) (hk : 6 * k + 6 ≤ L) (W0 : px_W) (hI : LI (24 * k) W0) (kk : ∀ W1, LI (24 * k + 24) W1 → XG mL_law (px_gL L xs) 131 22130 1021 [some (.ref 1000), some (.ref 0), some (.ref 82), some (.int (nI (6 * k)))] [] W1) : XG mL_law (px_gL L xs) 131 22130 929 [some (.ref 1000), some (.ref 0), some (.ref 82), some (.int (nI (6 * k)))] [] W0 := by
  obtain ⟨ro1, ro2, S, lv, v, a, b, bv, tv, ta, tb, uv, ua, ub, rv, ra, rb, rt9, se, pv, pa, gv, ga, ov, oa, qv, qa, hv, ha, nv, na, yv, ya, cf, cs, h1, h2, hc1, hc2, hdis, iv⟩ := hI
  have hdi2 : ∀ j, j ∈ ro1 → j ∉ ro2 := fun j h w => hdis j w h
  have hs := iv.tx.2.1
  have hr := iv.tx.2.2.1
  obtain ⟨tn, htn, e69, hq0, hto⟩ := iv.to
  refine XG.blk tL_law_ok 609 5 (pc' := 934) (pl' := [some (.ref 1000), some (.ref 0), some (.ref 82), some (.int (nI (6 * k)))]) (st' := [(.int (nI (6 * k) + nI 1)), (.ref 1000), (.ref 0)]) (W1 := _) (bs := []) rfl rfl rfl ?_
  rw [show nI (6 * k) + nI 1 = nI (6 * k + 1) from px_eadd rfl rfl]
  refine XG.sldL (j := 6 * k + 1) (by omega) hL dL_934 ?_
  refine XG.callV (ro := ro1) (W1 := (sW bv tv ta tb uv ua ub rv ra rb (px_tr (px_f [31, 32, 33, 34, 35, 36, 16, 17, 18, 19, 20, 21, 22, 23, 24, 25, 26, 27, 28, 29, 30, 1, 2, 3, 4, 5, 6, 7, 8, 9, 10, 11, 12, 13, 14, 15]) rt9) se pv pa gv ga ov oa qv qa hv ha nv na yv ya cf cs)) (rest := []) eL_law_935 kl_L_130 (cs_ask 100 bv tv ta tb uv ua ub rv ra rb (px_tr (px_f [31, 32, 33, 34, 35, 36, 16, 17, 18, 19, 20, 21, 22, 23, 24, 25, 26, 27, 28, 29, 30, 1, 2, 3, 4, 5, 6, 7, 8, 9, 10, 11, 12, 13, 14, 15]) rt9) se pv pa gv ga ov oa qv qa hv ha nv na yv ya cf cs S lv v a iv.tx.q iv.nt tn hq0 htn (fun i hi => (hto i hi).1) (fun i hi => (hto i hi).2) (xs (6 * k + 1)) (by decide)) fitL rfl h1 rfl (by rw [hc1]; rfl) (Nat.le_of_ble_eq_true rfl) (fun r9 W9 hp9 hl9 => ?_)
  have h1b := sub_pt h1 hl9
  have h2b := sub_pt2 (ro := ro1) (W1 := W9) h2 hdis
  revert h1b h2b
  generalize px_pt (px_f ro1) ro1 W9 W0 = W2
  intro h1b h2b
  obtain ⟨qv9, qa9, hv9, ha9, se9, ta9, rfl, hch, hq9, rfl⟩ := hp9
  show XG _ _ _ _ 938 [some (.ref 1000), some (.ref 0), some (.ref 82), some (.int (nI (6 * k)))] [(.int (if nI 0 ≤ (xs (6 * k + 1)) ∧ (xs (6 * k + 1)) ≤ nI tn then qAsk a lv (S.1 23) (S.1 24) (S.1 31) ((xs (6 * k + 1))).toNatClampNeg else -1))] _
  refine XG.blk tL_law_ok 616 5 (pc' := 943) (pl' := [some (.ref 1000), some (.ref 0), some (.ref 82), some (.int (nI (6 * k)))]) (st' := [(.int (nI (6 * k) + nI 1)), (.ref 1000), (.ref 82), (.int (if nI 0 ≤ (xs (6 * k + 1)) ∧ (xs (6 * k + 1)) ≤ nI tn then qAsk a lv (S.1 23) (S.1 24) (S.1 31) ((xs (6 * k + 1))).toNatClampNeg else -1))]) (W1 := _) (bs := []) rfl rfl rfl ?_
  rw [show nI (6 * k) + nI 1 = nI (6 * k + 1) from px_eadd rfl rfl]
  refine XG.sldL (j := 6 * k + 1) (by omega) hL dL_943 ?_
  refine XG.callV (ro := ro2) (W1 := (mW v a b)) (rest := [(.int (if nI 0 ≤ (xs (6 * k + 1)) ∧ (xs (6 * k + 1)) ≤ nI tn then qAsk a lv (S.1 23) (S.1 24) (S.1 31) ((xs (6 * k + 1))).toNatClampNeg else -1))]) eL_law_944 kl_L_133 (con_ask 100 v a b lv (S.1 23) (S.1 24) (S.1 31) iv.mi iv.wf tn e69 htn (xs (6 * k + 1)) (by decide)) fitL rfl h2b rfl (by rw [hc2]; rfl) (Nat.le_of_ble_eq_true rfl) (fun r8 W8 hp8 hl8 => ?_)
  have h1c := sub_pt2 (ro := ro2) (W1 := W8) h1b hdi2
  have h2c := sub_pt h2b hl8
  revert h1c h2c
  generalize px_pt (px_f ro2) ro2 W8 W2 = W3
  intro h1c h2c
  obtain ⟨v9, a9, rfl, hQ, rfl⟩ := hp8
  show XG _ _ _ _ 947 [some (.ref 1000), some (.ref 0), some (.ref 82), some (.int (nI (6 * k)))] [(.int (if nI 0 ≤ (xs (6 * k + 1)) ∧ (xs (6 * k + 1)) ≤ nI tn then qAsk a lv (S.1 23) (S.1 24) (S.1 31) ((xs (6 * k + 1))).toNatClampNeg else -1)), (.int (if nI 0 ≤ (xs (6 * k + 1)) ∧ (xs (6 * k + 1)) ≤ nI tn then qAsk a lv (S.1 23) (S.1 24) (S.1 31) ((xs (6 * k + 1))).toNatClampNeg else -1))] _
  refine XG.br eL_law_947 (P := (if nI 0 ≤ (xs (6 * k + 1)) ∧ (xs (6 * k + 1)) ≤ nI tn then qAsk a lv (S.1 23) (S.1 24) (S.1 31) ((xs (6 * k + 1))).toNatClampNeg else -1) = (if nI 0 ≤ (xs (6 * k + 1)) ∧ (xs (6 * k + 1)) ≤ nI tn then qAsk a lv (S.1 23) (S.1 24) (S.1 31) ((xs (6 * k + 1))).toNatClampNeg else -1)) (r := []) rfl (tgt := 1021) (by decide) (fun _ => kk _ ⟨ro1, ro2, S, lv, _, _, _, _, _, _, _, _, _, _, _, _, _, _, _, _, _, _, _, _, _, _, _, _, _, _, _, _, _, _, _, h1c, h2c, hc1, hc2, hdis, (((iv.c22 hch).ru hq9).qs hQ).mono (by omega)⟩) (fun h => absurd (rfl) h)
set_option maxRecDepth 100000 in
set_option maxHeartbeats 1000000 in
theorem lc_count {L : Nat} {xs : Nat → Int32} (hL : L ≤ 3072) (k : Nat) (hk : 6 * k + 6 ≤ L) (W0 : px_W) (hI : LI (24 * k) W0) (kk : ∀ W1, LI (24 * k + 24) W1 → XG mL_law (px_gL L xs) 131 22130 1021 [some (.ref 1000), some (.ref 0), some (.ref 82), some (.int (nI (6 * k)))] [] W1) : XG mL_law (px_gL L xs) 131 22130 998 [some (.ref 1000), some (.ref 0), some (.ref 82), some (.int (nI (6 * k)))] [] W0 := by
  obtain ⟨ro1, ro2, S, lv, v, a, b, bv, tv, ta, tb, uv, ua, ub, rv, ra, rb, rt9, se, pv, pa, gv, ga, ov, oa, qv, qa, hv, ha, nv, na, yv, ya, cf, cs, h1, h2, hc1, hc2, hdis, iv⟩ := hI
  have hdi2 : ∀ j, j ∈ ro1 → j ∉ ro2 := fun j h w => hdis j w h
  have hs := iv.tx.2.1
  have hr := iv.tx.2.2.1
  obtain ⟨tn, htn, e69, hq0, hto⟩ := iv.to
  obtain ⟨u9, np9, hu9, hnp9, e61, eb10, -, -⟩ := iv.un
  obtain ⟨f9, hf8, hb12, h73, -⟩ := iv.sl
  obtain ⟨n9, hn9, evn, ern, -⟩ := iv.tp
  refine XG.blk tL_law_ok 660 5 (pc' := 1003) (pl' := [some (.ref 1000), some (.ref 0), some (.ref 82), some (.int (nI (6 * k)))]) (st' := [(.int (nI (6 * k) + nI 1)), (.ref 1000), (.ref 0)]) (W1 := _) (bs := []) rfl rfl rfl ?_
  rw [show nI (6 * k) + nI 1 = nI (6 * k + 1) from px_eadd rfl rfl]
  refine XG.sldL (j := 6 * k + 1) (by omega) hL dL_1003 ?_
  refine XG.callV (ro := ro1) (W1 := (sW bv tv ta tb uv ua ub rv ra rb (px_tr (px_f [31, 32, 33, 34, 35, 36, 16, 17, 18, 19, 20, 21, 22, 23, 24, 25, 26, 27, 28, 29, 30, 1, 2, 3, 4, 5, 6, 7, 8, 9, 10, 11, 12, 13, 14, 15]) rt9) se pv pa gv ga ov oa qv qa hv ha nv na yv ya cf cs)) (rest := []) eL_law_1004 kl_L_142 (cs_count 100 bv tv ta tb uv ua ub rv ra rb (px_tr (px_f [31, 32, 33, 34, 35, 36, 16, 17, 18, 19, 20, 21, 22, 23, 24, 25, 26, 27, 28, 29, 30, 1, 2, 3, 4, 5, 6, 7, 8, 9, 10, 11, 12, 13, 14, 15]) rt9) se pv pa gv ga ov oa qv qa hv ha nv na yv ya cf cs S lv v a iv.tx.q iv.nt iv.rr.2.1 (ern.trans evn.symm) (eb10.trans e61.symm) (hq0.trans e69.symm) f9 hb12 hf8 (hl_pc hf8 h73) (xs (6 * k + 1)) (by decide)) fitL rfl h1 rfl (by rw [hc1]; rfl) (Nat.le_of_ble_eq_true rfl) (fun r9 W9 hp9 hl9 => ?_)
  have h1b := sub_pt h1 hl9
  have h2b := sub_pt2 (ro := ro1) (W1 := W9) h2 hdis
  revert h1b h2b
  generalize px_pt (px_f ro1) ro1 W9 W0 = W2
  intro h1b h2b
  obtain ⟨se9, ta9, rfl, hch, rfl⟩ := hp9
  show XG _ _ _ _ 1007 [some (.ref 1000), some (.ref 0), some (.ref 82), some (.int (nI (6 * k)))] [(.int (qCount v a lv (S.1 23) (S.1 24) (S.1 31) (xs (6 * k + 1))))] _
  refine XG.blk tL_law_ok 667 5 (pc' := 1012) (pl' := [some (.ref 1000), some (.ref 0), some (.ref 82), some (.int (nI (6 * k)))]) (st' := [(.int (nI (6 * k) + nI 1)), (.ref 1000), (.ref 82), (.int (qCount v a lv (S.1 23) (S.1 24) (S.1 31) (xs (6 * k + 1))))]) (W1 := _) (bs := []) rfl rfl rfl ?_
  rw [show nI (6 * k) + nI 1 = nI (6 * k + 1) from px_eadd rfl rfl]
  refine XG.sldL (j := 6 * k + 1) (by omega) hL dL_1012 ?_
  refine XG.callV (ro := ro2) (W1 := (mW v a b)) (rest := [(.int (qCount v a lv (S.1 23) (S.1 24) (S.1 31) (xs (6 * k + 1))))]) eL_law_1013 kl_L_145 (con_count 100 v a b lv (S.1 23) (S.1 24) (S.1 31) iv.mi iv.wf (xs (6 * k + 1)) (by decide)) fitL rfl h2b rfl (by rw [hc2]; rfl) (Nat.le_of_ble_eq_true rfl) (fun r8 W8 hp8 hl8 => ?_)
  have h1c := sub_pt2 (ro := ro2) (W1 := W8) h1b hdi2
  have h2c := sub_pt h2b hl8
  revert h1c h2c
  generalize px_pt (px_f ro2) ro2 W8 W2 = W3
  intro h1c h2c
  obtain ⟨v9, a9, rfl, hQ, rfl⟩ := hp8
  show XG _ _ _ _ 1016 [some (.ref 1000), some (.ref 0), some (.ref 82), some (.int (nI (6 * k)))] [(.int (qCount v a lv (S.1 23) (S.1 24) (S.1 31) (xs (6 * k + 1)))), (.int (qCount v a lv (S.1 23) (S.1 24) (S.1 31) (xs (6 * k + 1))))] _
  refine XG.br eL_law_1016 (P := (qCount v a lv (S.1 23) (S.1 24) (S.1 31) (xs (6 * k + 1))) = (qCount v a lv (S.1 23) (S.1 24) (S.1 31) (xs (6 * k + 1)))) (r := []) rfl (tgt := 1021) (by decide) (fun _ => kk _ ⟨ro1, ro2, S, lv, _, _, _, _, _, _, _, _, _, _, _, _, _, _, _, _, _, _, _, _, _, _, _, _, _, _, _, _, _, _, _, h1c, h2c, hc1, hc2, hdis, ((iv.c22 hch).qs hQ).mono (by omega)⟩) (fun h => absurd (rfl) h)
set_option maxRecDepth 100000 in
set_option maxHeartbeats 1000000 in
theorem lc_place {L : Nat} {xs : Nat → Int32} (hL : L ≤ 3072) (k : Nat) (hk : 6 * k + 6 ≤ L) (W0 : px_W) (hI : LI (24 * k) W0) (kk : ∀ W1, LI (24 * k + 24) W1 → XG mL_law (px_gL L xs) 131 22130 1021 [some (.ref 1000), some (.ref 0), some (.ref 82), some (.int (nI (6 * k)))] [] W1) : XG mL_law (px_gL L xs) 131 22130 271 [some (.ref 1000), some (.ref 0), some (.ref 82), some (.int (nI (6 * k)))] [] W0 := by
  obtain ⟨ro1, ro2, S, lv, v, a, b, bv, tv, ta, tb, uv, ua, ub, rv, ra, rb, rt9, se, pv, pa, gv, ga, ov, oa, qv, qa, hv, ha, nv, na, yv, ya, cf, cs, h1, h2, hc1, hc2, hdis, iv⟩ := hI
  have hdi2 : ∀ j, j ∈ ro1 → j ∉ ro2 := fun j h w => hdis j w h
  have hs := iv.tx.2.1
  have hr := iv.tx.2.2.1
  refine XG.blk tL_law_ok 103 1 (pc' := 272) (pl' := [some (.ref 1000), some (.ref 0), some (.ref 82), some (.int (nI (6 * k)))]) (st' := [(.ref 0)]) (W1 := _) (bs := []) rfl rfl rfl ?_
  refine XG.callV (ro := ro1) (W1 := (sW bv tv ta tb uv ua ub rv ra rb (px_tr (px_f [31, 32, 33, 34, 35, 36, 16, 17, 18, 19, 20, 21, 22, 23, 24, 25, 26, 27, 28, 29, 30, 1, 2, 3, 4, 5, 6, 7, 8, 9, 10, 11, 12, 13, 14, 15]) rt9) se pv pa gv ga ov oa qv qa hv ha nv na yv ya cf cs)) (rest := []) eL_law_272 kl_L_28 (cs_place 100 bv tv ta tb uv ua ub rv ra rb (px_tr (px_f [31, 32, 33, 34, 35, 36, 16, 17, 18, 19, 20, 21, 22, 23, 24, 25, 26, 27, 28, 29, 30, 1, 2, 3, 4, 5, 6, 7, 8, 9, 10, 11, 12, 13, 14, 15]) rt9) se pv pa gv ga ov oa qv qa hv ha nv na yv ya cf cs) fitL rfl h1 rfl (by rw [hc1]; rfl) (Nat.le_of_ble_eq_true rfl) (fun r9 W9 hp9 hl9 => ?_)
  have h1b := sub_pt h1 hl9
  have h2b := sub_pt2 (ro := ro1) (W1 := W9) h2 hdis
  revert h1b h2b
  generalize px_pt (px_f ro1) ro1 W9 W0 = W2
  intro h1b h2b
  obtain ⟨rfl, rfl⟩ := hp9
  show XG _ _ _ _ 275 [some (.ref 1000), some (.ref 0), some (.ref 82), some (.int (nI (6 * k)))] [(.int (rv 1))] _
  refine XG.blk tL_law_ok 105 1 (pc' := 276) (pl' := [some (.ref 1000), some (.ref 0), some (.ref 82), some (.int (nI (6 * k)))]) (st' := [(.ref 82), (.int (rv 1))]) (W1 := _) (bs := []) rfl rfl rfl ?_
  refine XG.callV (ro := ro2) (W1 := (mW v a b)) (rest := [(.int (rv 1))]) eL_law_276 kl_L_31 (con_place 100 v a b) fitL rfl h2b rfl (by rw [hc2]; rfl) (Nat.le_of_ble_eq_true rfl) (fun r8 W8 hp8 hl8 => ?_)
  have h1c := sub_pt2 (ro := ro2) (W1 := W8) h1b hdi2
  have h2c := sub_pt h2b hl8
  revert h1c h2c
  generalize px_pt (px_f ro2) ro2 W8 W2 = W3
  intro h1c h2c
  obtain ⟨rfl, rfl⟩ := hp8
  show XG _ _ _ _ 279 [some (.ref 1000), some (.ref 0), some (.ref 82), some (.int (nI (6 * k)))] [(.int (v 17)), (.int (rv 1))] _
  refine XG.br eL_law_279 (P := (rv 1) = (v 17)) (r := []) rfl (tgt := 1021) (by decide) (fun _ => kk _ ⟨ro1, ro2, S, lv, _, _, _, _, _, _, _, _, _, _, _, _, _, _, _, _, _, _, _, _, _, _, _, _, _, _, _, _, _, _, _, h1c, h2c, hc1, hc2, hdis, iv.mono (by omega)⟩) (fun h => absurd (iv.pl.symm) h)
set_option maxRecDepth 100000 in
set_option maxHeartbeats 1000000 in
theorem lc_forget {L : Nat} {xs : Nat → Int32} (hL : L ≤ 3072) (k : Nat) (hk : 6 * k + 6 ≤ L) (W0 : px_W) (hI : LI (24 * k) W0) (kk : ∀ W1, LI (24 * k + 24) W1 → XG mL_law (px_gL L xs) 131 22130 1021 [some (.ref 1000), some (.ref 0), some (.ref 82), some (.int (nI (6 * k)))] [] W1) : XG mL_law (px_gL L xs) 131 22130 883 [some (.ref 1000), some (.ref 0), some (.ref 82), some (.int (nI (6 * k)))] [] W0 := by
  obtain ⟨ro1, ro2, S, lv, v, a, b, bv, tv, ta, tb, uv, ua, ub, rv, ra, rb, rt9, se, pv, pa, gv, ga, ov, oa, qv, qa, hv, ha, nv, na, yv, ya, cf, cs, h1, h2, hc1, hc2, hdis, iv⟩ := hI
  have hdi2 : ∀ j, j ∈ ro1 → j ∉ ro2 := fun j h w => hdis j w h
  have hs := iv.tx.2.1
  have hr := iv.tx.2.2.1
  obtain ⟨tn, htn, e69, hq0, hto⟩ := iv.to
  refine XG.blk tL_law_ok 575 1 (pc' := 884) (pl' := [some (.ref 1000), some (.ref 0), some (.ref 82), some (.int (nI (6 * k)))]) (st' := [(.ref 0)]) (W1 := _) (bs := []) rfl rfl rfl ?_
  refine XG.callV (ro := ro1) (W1 := (sW bv tv ta tb uv ua ub rv ra rb (px_tr (px_f [31, 32, 33, 34, 35, 36, 16, 17, 18, 19, 20, 21, 22, 23, 24, 25, 26, 27, 28, 29, 30, 1, 2, 3, 4, 5, 6, 7, 8, 9, 10, 11, 12, 13, 14, 15]) rt9) se pv pa gv ga ov oa qv qa hv ha nv na yv ya cf cs)) (rest := []) eL_law_884 kl_L_122 (cs_forget 100 bv tv ta tb uv ua ub rv ra rb (px_tr (px_f [31, 32, 33, 34, 35, 36, 16, 17, 18, 19, 20, 21, 22, 23, 24, 25, 26, 27, 28, 29, 30, 1, 2, 3, 4, 5, 6, 7, 8, 9, 10, 11, 12, 13, 14, 15]) rt9) se pv pa gv ga ov oa qv qa hv ha nv na yv ya cf cs) fitL rfl h1 rfl (by rw [hc1]; rfl) (Nat.le_of_ble_eq_true rfl) (fun r9 W9 hp9 hl9 => ?_)
  have h1b := sub_pt h1 hl9
  have h2b := sub_pt2 (ro := ro1) (W1 := W9) h2 hdis
  revert h1b h2b
  generalize px_pt (px_f ro1) ro1 W9 W0 = W2
  intro h1b h2b
  obtain ⟨rfl, rfl⟩ := hp9
  show XG _ _ _ _ 887 [some (.ref 1000), some (.ref 0), some (.ref 82), some (.int (nI (6 * k)))] [(.int (qv 0))] _
  refine XG.blk tL_law_ok 577 1 (pc' := 888) (pl' := [some (.ref 1000), some (.ref 0), some (.ref 82), some (.int (nI (6 * k)))]) (st' := [(.ref 82), (.int (qv 0))]) (W1 := _) (bs := []) rfl rfl rfl ?_
  refine XG.callV (ro := ro2) (W1 := (mW v a b)) (rest := [(.int (qv 0))]) eL_law_888 kl_L_125 (con_forget 100 v a b) fitL rfl h2b rfl (by rw [hc2]; rfl) (Nat.le_of_ble_eq_true rfl) (fun r8 W8 hp8 hl8 => ?_)
  have h1c := sub_pt2 (ro := ro2) (W1 := W8) h1b hdi2
  have h2c := sub_pt h2b hl8
  revert h1c h2c
  generalize px_pt (px_f ro2) ro2 W8 W2 = W3
  intro h1c h2c
  obtain ⟨rfl, rfl⟩ := hp8
  show XG _ _ _ _ 891 [some (.ref 1000), some (.ref 0), some (.ref 82), some (.int (nI (6 * k)))] [(.int (v 69)), (.int (qv 0))] _
  refine XG.br eL_law_891 (P := (qv 0) = (v 69)) (r := []) rfl (tgt := 1021) (by decide) (fun _ => kk _ ⟨ro1, ro2, S, lv, _, _, _, _, _, _, _, _, _, _, _, _, _, _, _, _, _, _, _, _, _, _, _, _, _, _, _, _, _, _, _, h1c, h2c, hc1, hc2, hdis, iv.forget.mono (by omega)⟩) (fun h => absurd (hq0.trans e69.symm) h)
